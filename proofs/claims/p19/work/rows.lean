section
/-! ===== BEGIN words of one list among another's, by their places ===== -/
theorem goodIn_r {big : List Cond} (ws : List Cond) (ps : List Nat) (hp : ws = ps.filterMap (fun i => big[i]?)) (h : ws.all goodWord = true) : GoodIn big ws := by
  intro w hw
  have h1 := List.all_eq_true.mp h w hw
  rw [hp] at hw
  obtain ⟨i, -, hi⟩ := List.mem_filterMap.mp hw
  have hm : w ∈ big := by first | exact List.mem_of_getElem? hi | exact List.getElem?_mem hi
  exact ⟨hm, good_of_word h1⟩
theorem goodIn_app {big a b : List Cond} (ha : GoodIn big a) (hb : GoodIn big b) : GoodIn big (a ++ b) := fun w h => (List.mem_append.mp h).elim (ha w) (hb w)
theorem goodIn_ca {big a b : List Cond} {c : Cond} (ha : GoodIn big (c :: a)) (hb : GoodIn big b) : GoodIn big (c :: (a ++ b)) := fun w h => (List.mem_cons.mp h).elim (fun e => ha w (List.mem_cons.mpr (Or.inl e))) (fun h => (List.mem_append.mp h).elim (fun h => ha w (List.mem_cons.mpr (Or.inr h))) (hb w))
theorem goodIn_sub {big ws : List Cond} (hm : ∀ w ∈ ws, w ∈ big) (h : ws.all goodWord = true) : GoodIn big ws := fun w hw => ⟨hm w hw, good_of_word (List.all_eq_true.mp h w hw)⟩
/-! ===== END ===== -/

/-! ===== BEGIN new T[n][m]: the outer array a place, the inner ones among the pooled ===== -/
/-- f, but v at every address of l -/
def vr_up {α : Type} (f : Nat → α) (l : List Nat) (v : α) : Nat → α := fun a => if a ∈ l then v else f a
theorem vr_up_in {α : Type} {f : Nat → α} {l : List Nat} {v : α} {a : Nat} (h : a ∈ l) : vr_up f l v a = v := if_pos h
theorem vr_up_ne {α : Type} {f : Nat → α} {l : List Nat} {v : α} {a : Nat} (h : a ∉ l) : vr_up f l v a = f a := if_neg h
theorem vr_rows {L l : List Nat} {f : Nat → va_E} {e : va_E} (h : ∀ a, a ∈ l → a ∉ L) : va_pl L f ++ l.map (fun a => (a, e)) = va_pl (L ++ l) (vr_up f l e) := by
  unfold va_pl
  rw [List.map_append]
  congr 1
  · apply List.map_congr_left
    intro a ha
    rw [vr_up_ne (fun q => h a q ha)]
  · apply List.map_congr_left
    intro a ha
    rw [vr_up_in ha]
theorem vr_lay {X rows : va_W} {x : Nat × va_E} {pl : va_W} {D : va_G} {cl : List vw_C} {H : Heap} (hP : va_P D cl (((X ++ pl) ++ [x]) ++ rows) H) : va_P D cl ((X ++ [x]) ++ (pl ++ rows)) H := by
  rw [List.append_assoc (X ++ pl)] at hP
  have h := va_P.swap hP
  rw [← List.append_assoc X] at h
  have h2 := va_P.swap h
  rw [List.append_assoc (X ++ [x])] at h2
  exact h2
theorem vr_layD {X rows : va_W} {x : Nat × va_E} {pl : va_W} {A : Nat → Prop} (hD : va_D A (((X ++ pl) ++ [x]) ++ rows)) : va_D A ((X ++ [x]) ++ (pl ++ rows)) := by
  rw [List.append_assoc (X ++ pl)] at hD
  have h := va_D.swap hD
  rw [← List.append_assoc X] at h
  have h2 := va_D.swap h
  rw [List.append_assoc (X ++ [x])] at h2
  exact h2
theorem vr_outer (c : ClassId) (N h0 : Nat) : ∀ i : Nat, Jvm.Free.Multi.outerC c N h0 i = arrV c N (fun j => va_rf (if j < i then some (h0 + 1 + j) else none))
  | 0 => by
    show ({ cls := c, slots := Array.replicate N .null, vm := .none } : Cell) = _
    rw [arrV_new]
    refine congrArg (arrV c N) (funext fun j => ?_)
    simp [va_rf]
  | i + 1 => by
    show (Jvm.Free.Multi.outerC c N h0 i).setSlot i (.ref (h0 + 1 + i)) = _
    rw [vr_outer c N h0 i, arrV_store]
    refine congrArg (arrV c N) (funext fun j => ?_)
    by_cases e : j = i
    · subst e
      simp [updV, va_rf]
    · by_cases h : j < i
      · simp [updV, e, h, Nat.lt_succ_of_lt h]
      · simp [updV, e, h, show ¬ j < i + 1 by omega]
/-! ===== END ===== -/

/-! ===== BEGIN exceptions that leave a method, and their catching by the caller (launches without stack traces) ===== -/
section VXA
/-! The laws vx_back, vx_callV, vx_callS, vx_callSW, vx_throw0, vx_throwS follow proofs of the library, with one case more: JvmDerived/Free/Laws.lean (Back.of_free), Shelf42/LK1.lean (callV, callS), Shelf/KitTraced.lean (throwNew0V, throwNewS). -/
/-- where a method has thrown q: the class by its name, the cell, what was written, the world -/
def vx_T (XC : String → State → State → Prop) (st : State) (q : Addr) (t : State) (mc ms : Nat) (free : Addr → Prop) : Prop :=
  ∃ (E : String) (ce : Cell) (L : List Loc), XC E st t ∧ t.heap[q]? = some ce ∧ ce.vm = .none ∧ st.vm.findClass E = some ce.cls ∧ st.WarmedH t.vm ∧ st.sameButNew ({ t with vm := st.vm } : State) L mc ms ∧ ∀ z ∈ L, free z.base
def vx_Q (Qc : Array Value → State → Outcome → State → Prop) (XC : String → State → State → Prop) (mc ms : Nat) (free : Addr → Prop) : Array Value → State → Outcome → State → Prop := fun a st o t =>
  (Qc a st o t ∧ ∃ L, FrameEnd st o t L mc ms ∧ ∀ q ∈ L, free q.base) ∨ ∃ q, o = .threw q ∧ vx_T XC st q t mc ms free
/-- a callee that returns or throws -/
def vx_Met (l : Launch) (y : MethodName) (ws : List Cond) (rm : Room) (Pc : Array Value → State → Prop) (Qc : Array Value → State → Outcome → State → Prop) (XC : String → State → State → Prop) (mc ms : Nat) (free : Addr → Prop) : Prop :=
  MetFree l y (headSpec ws rm) Pc (fun _ _ _ _ _ => True) (vx_Q Qc XC mc ms free)
def vx_Post (XC : String → State → State → Prop) (mc ms : Nat) (free : Addr → Prop) : Pt → Array Value → Addr → Pt → Prop := fun A a q B =>
  ∃ (g : JFrame) (mk : MethodId) (t : State) (L : List Loc) (E : String) (ce : Cell), B.U.heap = t.heap ∧ B.U.vm = t.vm ∧ XC E (A.U.calling g mk a) t ∧ t.heap[q]? = some ce ∧ ce.vm = .none ∧ A.U.vm.findClass E = some ce.cls ∧ B.locs = A.locs ++ L ∧ (∀ z ∈ L, free z.base) ∧ B.cells = A.cells + mc ∧ B.slots = A.slots + ms
def vx_Back (l : Launch) (R : Room) (p : Program) (e : Env) (below : List Frame) (s : State) (sargs : Array Value) (y : MethodName) (len W9 : Nat)
    (Pre : Pt → Array Value → Prop) (Post : Pt → Array Value → Option Value → Pt → Prop) (PostX : Pt → Array Value → Addr → Pt → Prop) : Prop :=
  ∀ (m : MethodId) (meth : Method) (c : Code) (A : Pt) (g : JFrame) (ig : Instr) (mk : MethodId) (a : Array Value),
    Stand p l e R s m sargs below meth c A.U A.locs A.cells A.slots → g.method = m → g.locals.size = c.maxLocals → decode c.code g.pc = .ok (ig, len) →
    2 * g.monitorRoom + (g.stack.map fun v => v.category).sum ≤ W9 → A.U.methodNamed? y = some mk → Pre A a →
    (∃ (v : Option Value) (B : Pt), Stand p l e R s m sargs below meth c B.U B.locs B.cells B.slots ∧ Post A a v B ∧
      Steps p.tables e below (doInvoke e (A.U.setTop g) [] mk a).1 (B.U.setTop { g with pc := g.pc + len, stack := v.toList ++ g.stack })) ∨
    (∃ (q : Addr) (B : Pt), Stand p l e R s m sargs below meth c B.U B.locs B.cells B.slots ∧ PostX A a q B ∧
      Steps p.tables e below (doInvoke e (A.U.setTop g) [] mk a).1 ((B.U.setTop g).pushFrame (.throwing q)))
section Payer
variable {l : Launch} {R : Room} {p : Program} {e : Env} {below : List Frame} {s : State} {sargs : Array Value} {y : MethodName} {len W9 : Nat}
theorem vx_back {ws : List Cond} {rm : Room} {Pc : Array Value → State → Prop} {Qc : Array Value → State → Outcome → State → Prop} {XC : String → State → State → Prop} {mc ms : Nat} {free : Addr → Prop} {bytes : ByteArray} {maxL : Nat} {ret : Option FieldType}
    (hM : vx_Met l y ws rm Pc Qc XC mc ms free) (hblind : FrameBlind Pc) (hrc : rm.cells = mc) (hrs : rm.slots = ms)
    (hframes : rm.frames + 1 ≤ R.frames) (hlocals : W9 + (maxL + 11) + rm.locals ≤ R.locals)
    (hws : ∀ w ∈ ws, ∀ a' U, s.WarmedH U.vm → w.before a' U = true) (hcode : Cond.code y bytes maxL ret ∈ ws) (hinit : ∀ a' U, s.WarmedH U.vm → (Cond.initialized y.cls).before a' U = true) :
    vx_Back l R p e below s sargs y len W9 (PreOf R mc ms Pc) (PostOf Qc mc ms free) (vx_Post XC mc ms free) := by
  intro m meth c A g ig mk a X hg hsize hdg hW hn hp
  have h1 : (headSpec ws rm).pre.before a A.U = true := atoms_intro fun w hw => hws w hw _ _ X.warmed
  have h2 : (Cond.code y bytes maxL ret).before a A.U = true := hws _ hcode _ _ X.warmed
  have h3 : (Cond.initialized y.cls).before a A.U = true := hinit _ _ X.warmed
  have h4 : A.cells + (headSpec ws rm).room.cells ≤ R.cells := by rw [show (headSpec ws rm).room.cells = mc from hrc]; exact hp.1
  have h5 : A.slots + (headSpec ws rm).room.slots ≤ R.slots := by rw [show (headSpec ws rm).room.slots = ms from hrs]; exact hp.2.1
  have hPc : Pc a (A.U.calling g mk a) := hblind _ _ _ _ hp.2.2
  obtain ⟨U, Ls, c0, s0⟩ := A
  dsimp only [Pt.U, Pt.locs, Pt.cells, Pt.slots] at h1 h2 h3 h4 h5 X hn hPc ⊢
  obtain ⟨methY, cY, hmY, hcY, -, hlY, -, -, -, -⟩ := Cond.code_spec hn h2
  obtain ⟨kY, hkY, -⟩ := className_of_methodNamed hn
  have hinitY : kY.init = .initialized := Cond.initialized_spec (findClass_of_methodNamed hn) hkY h3
  have h : At U g.method c below := by rw [hg]; exact X.here
  have hlocals9 : W9 + (maxL + 11) + (headSpec ws rm).room.locals ≤ R.locals := hlocals
  have happ : (headSpec ws rm).appliesLoose y e.platform (U.calling g mk a) = true :=
    Spec.appliesLoose_calling (g := g) h hdg hn hkY hinitY
      (X.room_calling (g := g) (R' := (headSpec ws rm).room) hsize hmY hcY hframes (by rw [hlY]; omega) h4 h5) h1
  obtain ⟨mid, hmid⟩ := h.above
  have hfr : (U.setTop g).frames = (.java g :: mid) ++ below := by rw [State.frames_setTop' g h.top, hmid]; rfl
  obtain ⟨o, s₂, hsteps, -, hend, hq⟩ := Steps.callFree hM p X.admits X.cas X.clock (acts := []) hfr happ hPc trivial
  have hq' : vx_Q Qc XC mc ms free a (U.calling g mk a) o s₂ := hq
  rw [State.frames_setTop' g h.top] at hend
  obtain ⟨g₀, hg0⟩ := Option.isSome_iff_exists.mp h.top
  obtain ⟨r, hr⟩ := State.topJava?_eq_some.mp hg0
  have hr' : (({ U with heap := s₂.heap, slotsUsed := s₂.slotsUsed } : State).setVm s₂.vm).frames = .java g₀ :: r := hr
  rcases hq' with ⟨hqc, L, hfe, hL⟩ | ⟨q, rfl, E, ce, L, hx, hce, hcv, hcl, hW₂, hsm, hL⟩
  · obtain ⟨⟨v, rfl⟩, hW₂, e2, q2, q3, q4, q5, q6⟩ := id hfe
    have e3 : s₂ = ({ (U.calling g mk a).setFrames s₂.frames with heap := s₂.heap, slotsUsed := s₂.slotsUsed } : State).setVm s₂.vm := by
      have : s₂ = ({ s₂ with vm := (U.calling g mk a).vm } : State).setVm s₂.vm := rfl
      rw [e2] at this
      exact this
    obtain ⟨c₂, i₂, len₂, hc₂, hd₂, hf₂⟩ := hend
    have hW' : U.WarmedH s₂.vm := hW₂
    have hcc : c₂ = c := by
      have h1 : s₂.code? g.method = U.code? g.method := by
        rw [State.code?_eq, State.code?_eq, hW'.alike.method?]
      exact Option.some.inj (hc₂.symm.trans (h1.trans h.code))
    subst hcc
    have hlen : len₂ = len := by rw [hdg] at hd₂; cases hd₂; rfl
    subst hlen
    have hs₂ : s₂ = (({ U with heap := s₂.heap, slotsUsed := s₂.slotsUsed } : State).setVm s₂.vm).setTop { g with pc := g.pc + len₂, stack := v.toList ++ g.stack } := by
      refine e3.trans ?_
      rw [hf₂, State.calling_eq h.top, State.setFrames_setFrames, State.setTop_of_frames _ hr', hr]
      rfl
    have hsame : U.sameButNew ({ U with heap := s₂.heap, slotsUsed := s₂.slotsUsed } : State) L mc ms := by
      refine ⟨?_, q2, q3, q4, q5, q6⟩
      obtain ⟨t, ht, -⟩ := State.frames_cons hr
      show ({ U with heap := s₂.heap, slotsUsed := s₂.slotsUsed } : State) = { U.setFrames U.frames with heap := s₂.heap, slotsUsed := s₂.slotsUsed }
      rw [State.setFrames_self ht]
    subst hg
    refine Or.inl ⟨v, ⟨(({ U with heap := s₂.heap, slotsUsed := s₂.slotsUsed } : State).setVm s₂.vm), Ls ++ L, c0 + mc, s0 + ms⟩,
      ⟨X.admits, X.cas, X.clock, X.frames, X.room, X.hears, X.method, X.code, (X.here.setHeapUsed s₂.heap s₂.slotsUsed).setVm hW'.alike, X.tail, State.WarmedH.trans X.warmed hW', X.limits, X.bytes, X.same.trans (hsame.setVm s.vm)⟩,
      ⟨g, mk, s₂, L, rfl, rfl, hqc, rfl, hL, rfl, rfl⟩, ?_⟩
    show Steps p.tables e below _ ((({ U with heap := s₂.heap, slotsUsed := s₂.slotsUsed } : State).setVm s₂.vm).setTop { g with pc := g.pc + len₂, stack := v.toList ++ g.stack })
    rw [← hs₂]
    exact hsteps
  · obtain ⟨e2, q2, q3, q4, q5, q6⟩ := id hsm
    have e3 : s₂ = ({ (U.calling g mk a).setFrames s₂.frames with heap := s₂.heap, slotsUsed := s₂.slotsUsed } : State).setVm s₂.vm := by
      have : s₂ = ({ s₂ with vm := (U.calling g mk a).vm } : State).setVm s₂.vm := rfl
      rw [e2] at this
      exact this
    have hf₂ : s₂.frames = .throwing q :: .java g :: U.frames.tail := hend
    have hW' : U.WarmedH s₂.vm := hW₂
    have hs₂ : s₂ = ((({ U with heap := s₂.heap, slotsUsed := s₂.slotsUsed } : State).setVm s₂.vm).setTop g).pushFrame (.throwing q) := by
      refine e3.trans ?_
      rw [hf₂, State.calling_eq h.top, State.setFrames_setFrames, State.pushFrame, State.frames_setTop _ hr', State.setTop_of_frames _ hr', State.setFrames_setFrames, hr]
      rfl
    have hsame : U.sameButNew ({ U with heap := s₂.heap, slotsUsed := s₂.slotsUsed } : State) L mc ms := by
      refine ⟨?_, q2, q3, q4, q5, q6⟩
      obtain ⟨t, ht, -⟩ := State.frames_cons hr
      show ({ U with heap := s₂.heap, slotsUsed := s₂.slotsUsed } : State) = { U.setFrames U.frames with heap := s₂.heap, slotsUsed := s₂.slotsUsed }
      rw [State.setFrames_self ht]
    subst hg
    refine Or.inr ⟨q, ⟨(({ U with heap := s₂.heap, slotsUsed := s₂.slotsUsed } : State).setVm s₂.vm), Ls ++ L, c0 + mc, s0 + ms⟩,
      ⟨X.admits, X.cas, X.clock, X.frames, X.room, X.hears, X.method, X.code, (X.here.setHeapUsed s₂.heap s₂.slotsUsed).setVm hW'.alike, X.tail, State.WarmedH.trans X.warmed hW', X.limits, X.bytes, X.same.trans (hsame.setVm s.vm)⟩,
      ⟨g, mk, s₂, L, E, ce, rfl, rfl, hx, hce, hcv, hcl, rfl, hL, rfl, rfl⟩, ?_⟩
    show Steps p.tables e below _ (((({ U with heap := s₂.heap, slotsUsed := s₂.slotsUsed } : State).setVm s₂.vm).setTop g).pushFrame (.throwing q))
    rw [← hs₂]
    exact hsteps
end Payer
section Calls
variable {p : Program} {l : Launch} {e : Env} {R : Room} {s : State} {m : MethodId} {args : Array Value} {below : List Frame} {meth : Method} {c : Code} {T : State} {locs : List Loc} {cells slots : Nat}
theorem vx_callV (X : Stand p l e R s m args below meth c T locs cells slots) (hexec : p.tables.exec = Jvm.exec) {own C : String} {index : Nat} {y : MethodName} {bytes : ByteArray} {maxL : Nat} {ret : Option FieldType}
    (hown : s.vm.findClass own = some m.cls) (hlink : (Cond.methodLink own index y).before args s = true) (hinst : (Cond.instanceMethod y).before args s = true) (hsel : (Cond.selects C y y).before args s = true)
    (hcode : (Cond.code y bytes maxL ret).before args s = true) (hy : y.cls ≠ "java/lang/invoke/MethodHandle" ∧ y.cls ≠ "java/lang/invoke/VarHandle")
    {W9 : Nat} {Pre : Pt → Array Value → Prop} {Post : Pt → Array Value → Option Value → Pt → Prop} {PostX : Pt → Array Value → Addr → Pt → Prop} (hK : vx_Back l R p e below s args y 3 W9 Pre Post PostX)
    {b : Addr} {cellB : Cell} (hcell : T.heap[b]? = some cellB) (hobj : cellB.vm.isStatics = false) (hcls : s.vm.findClass C = some cellB.cls)
    {g : JFrame} (hg : g.method = m) (hsize : g.locals.size = c.maxLocals) {argsL rest : List Value} (hlen : ∀ sig, parseMethodDescriptor y.desc = some sig → argsL.length = sig.parameters.length)
    (hstack : g.stack = argsL.reverse ++ .ref b :: rest) (hW : 2 * g.monitorRoom + (rest.map fun v => v.category).sum ≤ W9) (hdg : decode c.code g.pc = .ok (.invokevirtual index, 3))
    (hpre : ∀ vm₁, s.WarmedH vm₁ → Pre ⟨T.setVm vm₁, locs, cells, slots⟩ (Value.ref b :: argsL).toArray) :
    (∃ (v : Option Value) (vm₁ : Vm) (B : Pt), s.WarmedH vm₁ ∧ Stand p l e R s m args below meth c B.U B.locs B.cells B.slots ∧ Post ⟨T.setVm vm₁, locs, cells, slots⟩ (Value.ref b :: argsL).toArray v B ∧
      ∀ target, Steps p.tables e below (B.U.setTop { g with pc := g.pc + 3, stack := v.toList ++ rest }) target → Steps p.tables e below (T.setTop g) target) ∨
    (∃ (q : Addr) (vm₁ : Vm) (B : Pt), s.WarmedH vm₁ ∧ Stand p l e R s m args below meth c B.U B.locs B.cells B.slots ∧ PostX ⟨T.setVm vm₁, locs, cells, slots⟩ (Value.ref b :: argsL).toArray q B ∧
      Steps p.tables e below (T.setTop g) ((B.U.setTop { g with stack := rest }).pushFrame (.throwing q))) := by
  obtain ⟨mk, methM, hnamed, hmethM, hstM, habM⟩ := Cond.instanceMethod_spec hinst
  obtain ⟨methM', cM, hmethM', -, -, -, -, -, -, hsigM⟩ := Cond.code_spec hnamed hcode
  cases hmethM.symm.trans hmethM'
  obtain ⟨c2, r2, m2, q1, q2, q3, q4, kP, hkP, hkPi⟩ := Cond.selects_spec hsel
  cases hcls.symm.trans q1
  cases (State.methodFound?_of_named hnamed hy).symm.trans q2
  cases hnamed.symm.trans q3
  have hselP : selectMethod e.platform s.vm cellB.cls mk = .method mk := by rw [Launch.admits_selectMethod X.admits]; exact q4
  obtain ⟨vm₁, X₁, hstep₁⟩ := X.invokevirtual hexec hown hlink hnamed hmethM hstM hkP hkPi hy (a := b) (cell := cellB) hcell
    (fun z h => by rw [h] at hobj; cases hobj) hselP hmethM habM hkP hkPi (g := g) hg (argsL := argsL) (rest := rest) (hlen _ hsigM) hstack hdg
  rcases hK m meth c ⟨T.setVm vm₁, locs, cells, slots⟩ { g with stack := rest } (.invokevirtual index) mk (Value.ref b :: argsL).toArray X₁ hg hsize hdg hW (X₁.named hnamed) (hpre vm₁ X₁.warmed) with ⟨v, B, X', hpost, hsteps⟩ | ⟨q, B, X', hpost, hsteps⟩
  · exact Or.inl ⟨v, vm₁, B, X₁.warmed, X', hpost, fun target h => hstep₁ _ fun acts => by rw [doInvoke_state]; exact hsteps.trans h⟩
  · exact Or.inr ⟨q, vm₁, B, X₁.warmed, X', hpost, hstep₁ _ fun acts => by rw [doInvoke_state]; exact hsteps⟩
theorem vx_callS (X : Stand p l e R s m args below meth c T locs cells slots) (hexec : p.tables.exec = Jvm.exec) {own : String} {index : Nat} {y : MethodName} {bytes : ByteArray} {maxL : Nat} {ret : Option FieldType}
    (hown : s.vm.findClass own = some m.cls) (hlink : (Cond.methodLink own index y).before args s = true) (hstat : (Cond.static y).before args s = true) (hinit : (Cond.initialized y.cls).before args s = true)
    (hcode : (Cond.code y bytes maxL ret).before args s = true) (hy : y.cls ≠ "java/lang/invoke/MethodHandle" ∧ y.cls ≠ "java/lang/invoke/VarHandle")
    {W9 : Nat} {Pre : Pt → Array Value → Prop} {Post : Pt → Array Value → Option Value → Pt → Prop} {PostX : Pt → Array Value → Addr → Pt → Prop} (hK : vx_Back l R p e below s args y 3 W9 Pre Post PostX)
    {g : JFrame} (hg : g.method = m) (hsize : g.locals.size = c.maxLocals) {argsL rest : List Value} (hlen : ∀ sig, parseMethodDescriptor y.desc = some sig → argsL.length = sig.parameters.length)
    (hstack : g.stack = argsL.reverse ++ rest) (hW : 2 * g.monitorRoom + (rest.map fun v => v.category).sum ≤ W9) (hdg : decode c.code g.pc = .ok (.invokestatic index, 3))
    (hpre : ∀ vm₁, s.WarmedH vm₁ → Pre ⟨T.setVm vm₁, locs, cells, slots⟩ argsL.toArray) :
    (∃ (v : Option Value) (vm₁ : Vm) (B : Pt), s.WarmedH vm₁ ∧ Stand p l e R s m args below meth c B.U B.locs B.cells B.slots ∧ Post ⟨T.setVm vm₁, locs, cells, slots⟩ argsL.toArray v B ∧
      ∀ target, Steps p.tables e below (B.U.setTop { g with pc := g.pc + 3, stack := v.toList ++ rest }) target → Steps p.tables e below (T.setTop g) target) ∨
    (∃ (q : Addr) (vm₁ : Vm) (B : Pt), s.WarmedH vm₁ ∧ Stand p l e R s m args below meth c B.U B.locs B.cells B.slots ∧ PostX ⟨T.setVm vm₁, locs, cells, slots⟩ argsL.toArray q B ∧
      Steps p.tables e below (T.setTop g) ((B.U.setTop { g with stack := rest }).pushFrame (.throwing q))) := by
  obtain ⟨mk, hnamed⟩ := Cond.code_named hcode
  obtain ⟨methM, cM, hmethM, -, -, -, -, -, -, hsigM⟩ := Cond.code_spec hnamed hcode
  have hstatic : methM.isStatic = true := Cond.static_spec hnamed hmethM hstat
  obtain ⟨kP, hkP, -⟩ := className_of_methodNamed hnamed
  have hinitP : kP.init = .initialized := Cond.initialized_spec (findClass_of_methodNamed hnamed) hkP hinit
  obtain ⟨vm₁, X₁, hstep₁⟩ := X.invokestatic hexec hown hlink hnamed hmethM hstatic hkP hinitP hy (g := g) hg (argsL := argsL) (rest := rest) (hlen _ hsigM) hstack hdg
  rcases hK m meth c ⟨T.setVm vm₁, locs, cells, slots⟩ { g with stack := rest } (.invokestatic index) mk argsL.toArray X₁ hg hsize hdg hW (X₁.named hnamed) (hpre vm₁ X₁.warmed) with ⟨v, B, X', hpost, hsteps⟩ | ⟨q, B, X', hpost, hsteps⟩
  · exact Or.inl ⟨v, vm₁, B, X₁.warmed, X', hpost, fun target h => hstep₁ _ fun acts => by rw [doInvoke_state]; exact hsteps.trans h⟩
  · exact Or.inr ⟨q, vm₁, B, X₁.warmed, X', hpost, hstep₁ _ fun acts => by rw [doInvoke_state]; exact hsteps⟩
end Calls
theorem vx_cls {s : State} {T : State} {vm₁ : Vm} {E : String} {k : ClassId} (hW : s.WarmedH vm₁) (h : (T.setVm vm₁).vm.findClass E = some k) : s.vm.findClass E = some k := by
  have h1 : vm₁.findClass E = some k := h
  rw [hW.alike.findClass] at h1
  exact h1
/-- the method's frame g, with q thrown over it -/
def vx_W (p : Program) (l : Launch) (e : Env) (R : Room) (s : State) (m : MethodId) (args : Array Value) (below : List Frame) (meth : Method) (c : Code) (H : Heap) (locs : List Loc) (cells slots : Nat) (Q : State → Prop) (g : JFrame) (q : Addr) : Prop :=
  ∀ T : State, T.heap = H → Stand p l e R s m args below meth c T locs cells slots → ∃ t, Steps p.tables e below ((T.setTop g).pushFrame (.throwing q)) t ∧ Q t
def vx_Run (p : Program) (l : Launch) (e : Env) (R : Room) (s : State) (m : MethodId) (args : Array Value) (below : List Frame) (meth : Method) (c : Code) (H : Heap) (locs : List Loc) (cells slots mc ms : Nat) (g : JFrame) (rest : List Value) (Qa : State → Outcome → State → Prop) (XC : String → State → State → Prop) (free : Addr → Prop) : Prop :=
  ∀ T : State, T.heap = H → Stand p l e R s m args below meth c T locs cells slots →
    (∃ (v : Option Value) (st₀ t T' : State) (L : List Loc), st₀.heap = H ∧ Stand p l e R s m args below meth c T' (locs ++ L) (cells + mc) (slots + ms) ∧ (∀ q ∈ L, free q.base) ∧ T'.heap = t.heap ∧ T'.vm = t.vm ∧ Qa st₀ (.returned v) t ∧
      Goes p e below T g T' { g with pc := g.pc + 3, stack := v.toList ++ rest }) ∨
    (∃ (q : Addr) (st₀ t T' : State) (L : List Loc) (E : String) (ce : Cell), st₀.heap = H ∧ Stand p l e R s m args below meth c T' (locs ++ L) (cells + mc) (slots + ms) ∧ (∀ z ∈ L, free z.base) ∧ T'.heap = t.heap ∧ T'.vm = t.vm ∧ XC E st₀ t ∧ t.heap[q]? = some ce ∧ ce.vm = .none ∧ s.vm.findClass E = some ce.cls ∧
      Steps p.tables e below (T.setTop g) ((T'.setTop { g with stack := rest }).pushFrame (.throwing q)))
def vx_X {S : Type} (px : S → Prop) (B : String → S → State → Prop) (A : Nat → Prop) : String → State → State → Prop := fun E st t => ∃ u : S, px u ∧ B E u t ∧ va_F A st t
section Runs
variable {p : Program} {l : Launch} {e : Env} {R : Room} {s : State} {m : MethodId} {args : Array Value} {below : List Frame} {meth : Method} {c : Code} {H : Heap} {locs : List Loc} {cells slots : Nat}
variable {y : MethodName} {bytes cc : ByteArray} {maxL nL mc ms n index : Nat} {ret : Option FieldType} {ws : List Cond} {rm : Room} {Pc : Array Value → State → Prop} {Qc : Array Value → State → Outcome → State → Prop} {XC : String → State → State → Prop} {free : Addr → Prop} {Ts : List Cond} {own C : String} {b : Addr} {As rest : List Value} {g : JFrame}
theorem vx_callBack (cb : CallB R s args own index y bytes maxL ret ws rm mc ms n) (hM : vx_Met l y ws rm Pc Qc XC mc ms free) (hbl : FrameBlind Pc) : vx_Back l R p e below s args y 3 8 (PreOf R mc ms Pc) (PostOf Qc mc ms free) (vx_Post XC mc ms free) := by
  obtain ⟨hrc, hrs, hfr, hlo, hws, hcw, -, hini, -⟩ := cb
  exact vx_back (bytes := bytes) (maxL := maxL) (ret := ret) hM hbl hrc hrs hfr hlo hws hcw (fun a' U hW => word_at hW (Or.inl (by first | rfl | simp [Cond.onTables, Cond.keeps, Cond.steady])) hini)
theorem vx_runV (S : CallFix p m c cc nL s args Ts own) (hM : vx_Met l y ws rm Pc Qc XC mc ms free) (cw : CallW R s args own C index y bytes maxL ret ws rm mc ms n) (hp : PreV s H C b Pc As)
    (hg : g.method = m) (hn : As.length = n) (hsize : g.locals.size = nL) (hstack : g.stack = As.reverse ++ .ref b :: rest) (hW : 2 * g.monitorRoom + (rest.map fun v => v.category).sum ≤ 8) (hdg : decode cc g.pc = .ok (.invokevirtual index, 3)) (hf : cells + mc ≤ R.cells ∧ slots + ms ≤ R.slots) :
    vx_Run p l e R s m args below meth c H locs cells slots mc ms g rest (Qc (Value.ref b :: As).toArray) XC free := by
  have hK : vx_Back l R p e below s args y 3 8 (PreOf R mc ms Pc) (PostOf Qc mc ms free) (vx_Post XC mc ms free) := vx_callBack cw.1 hM hp.1
  obtain ⟨⟨-, -, -, -, -, -, hcode, -, hy, hlen, hl⟩, hin, hse⟩ := cw
  obtain ⟨hx, hb, hml, ho, -⟩ := S
  obtain ⟨-, ⟨cellB, hcB, hoB, hclB⟩, hPc⟩ := hp
  intro T hT X
  rcases vx_callV X hx (C := C) (bytes := bytes) (maxL := maxL) (ret := ret) ho hl hin hse hcode hy hK (by rw [hT]; exact hcB) hoB hclB hg (hsize.trans hml.symm) (argsL := As) (rest := rest) (fun sig h => hn.trans (hlen sig h)) hstack hW (by rw [hb]; exact hdg)
    (fun vm₁ hW₁ => ⟨hf.1, hf.2, hPc (T.setVm vm₁) hT hW₁⟩) with ⟨v, vm₁, ⟨U', l2, c2, s2⟩, hW₁, X', ⟨g', mk, t, L, e1, e2, hq, h1, hL, h2, h3⟩, st⟩ | ⟨q, vm₁, ⟨U', l2, c2, s2⟩, hW₁, X', ⟨g', mk, t, L, E, ce, e1, e2, hq, hce, hcv, hcl, h1, hL, h2, h3⟩, st⟩
  · dsimp only [Pt.U, Pt.locs, Pt.cells, Pt.slots] at X' e1 e2 h1 h2 h3 st
    subst h1; subst h2; subst h3
    exact Or.inl ⟨v, (T.setVm vm₁).calling g' mk (Value.ref b :: As).toArray, t, U', L, hT, X', hL, e1, e2, hq, st⟩
  · dsimp only [Pt.U, Pt.locs, Pt.cells, Pt.slots] at X' e1 e2 h1 h2 h3 st hcl
    subst h1; subst h2; subst h3
    exact Or.inr ⟨q, (T.setVm vm₁).calling g' mk (Value.ref b :: As).toArray, t, U', L, E, ce, hT, X', hL, e1, e2, hq, hce, hcv, vx_cls hW₁ hcl, st⟩
theorem vx_runS (S : CallFix p m c cc nL s args Ts own) (hM : vx_Met l y ws rm Pc Qc XC mc ms free) (cw : CallB R s args own index y bytes maxL ret ws rm mc ms n ∧ (Cond.static y).before args s = true) (hp : PreS s H Pc As)
    (hg : g.method = m) (hn : As.length = n) (hsize : g.locals.size = nL) (hstack : g.stack = As.reverse ++ rest) (hW : 2 * g.monitorRoom + (rest.map fun v => v.category).sum ≤ 8) (hdg : decode cc g.pc = .ok (.invokestatic index, 3)) (hf : cells + mc ≤ R.cells ∧ slots + ms ≤ R.slots) :
    vx_Run p l e R s m args below meth c H locs cells slots mc ms g rest (Qc As.toArray) XC free := by
  have hK : vx_Back l R p e below s args y 3 8 (PreOf R mc ms Pc) (PostOf Qc mc ms free) (vx_Post XC mc ms free) := vx_callBack cw.1 hM hp.1
  obtain ⟨⟨-, -, -, -, -, -, hcode, hini, hy, hlen, hl⟩, hstt⟩ := cw
  obtain ⟨hx, hb, hml, ho, -⟩ := S
  intro T hT X
  rcases vx_callS X hx (bytes := bytes) (maxL := maxL) (ret := ret) ho hl hstt hini hcode hy hK hg (hsize.trans hml.symm) (argsL := As) (rest := rest) (fun sig h => hn.trans (hlen sig h)) hstack hW (by rw [hb]; exact hdg)
    (fun vm₁ hW₁ => ⟨hf.1, hf.2, hp.2 (T.setVm vm₁) hT hW₁⟩) with ⟨v, vm₁, ⟨U', l2, c2, s2⟩, hW₁, X', ⟨g', mk, t, L, e1, e2, hq, h1, hL, h2, h3⟩, st⟩ | ⟨q, vm₁, ⟨U', l2, c2, s2⟩, hW₁, X', ⟨g', mk, t, L, E, ce, e1, e2, hq, hce, hcv, hcl, h1, hL, h2, h3⟩, st⟩
  · dsimp only [Pt.U, Pt.locs, Pt.cells, Pt.slots] at X' e1 e2 h1 h2 h3 st
    subst h1; subst h2; subst h3
    exact Or.inl ⟨v, (T.setVm vm₁).calling g' mk As.toArray, t, U', L, hT, X', hL, e1, e2, hq, st⟩
  · dsimp only [Pt.U, Pt.locs, Pt.cells, Pt.slots] at X' e1 e2 h1 h2 h3 st hcl
    subst h1; subst h2; subst h3
    exact Or.inr ⟨q, (T.setVm vm₁).calling g' mk As.toArray, t, U', L, E, ce, hT, X', hL, e1, e2, hq, hce, hcv, vx_cls hW₁ hcl, st⟩
end Runs
section Rows
variable {p : Program} {l : Launch} {e : Env} {R : Room} {s : State} {m : MethodId} {args : Array Value} {below : List Frame} {meth : Method} {c : Code} {H : Heap} {locs : List Loc} {cells slots : Nat} {Q : State → Prop}
variable {mc ms : Nat} {free : Addr → Prop} {A0 A1 : Nat → Prop} {H0 : Heap} {a : Array Value} {pc : Nat} {ls : Array Slot} {st0 rest : List Value}
theorem vx_keep {st₀ t T' : State} {L : List Loc} (h0 : st₀.heap = H) (e1 : T'.heap = t.heap) (hS : va_S A0 H0 H locs) (hA : ∀ q, q < H.size → A1 q → A0 q) (hf : ∀ q, free q → A0 q) (hL : ∀ q ∈ L, free q.base) (hF : va_F A1 st₀ t) :
    H.size ≤ T'.heap.size ∧ (∀ q : Nat, q < H.size → ¬ A1 q → T'.heap[q]? = H[q]?) ∧ va_S A0 H0 T'.heap (locs ++ L) := by
  obtain ⟨hz, hk⟩ := hF
  rw [h0] at hz hk
  exact ⟨by rw [e1]; exact hz, fun q h1 h2 => by rw [e1]; exact hk q h1 h2,
    ⟨Nat.le_trans hS.1 (by rw [e1]; exact hz), fun q h1 h2 => by rw [e1, hk q (Nat.lt_of_lt_of_le h1 hS.1) (fun z => h2 (hA q (Nat.lt_of_lt_of_le h1 hS.1) z))]; exact hS.2.1 q h1 h2, fun q hq => by
      rcases List.mem_append.mp hq with h | h
      · exact hS.2.2 q h
      · exact hf _ (hL q h)⟩⟩
theorem vx_calli {S SX : Type} {post : Int32 → S → Prop} {px : SX → Prop} {B : S → State → Prop} {BX : String → SX → State → Prop} {AX : Nat → Prop} (hr : vx_Run p l e R s m args below meth c H locs cells slots mc ms (F0 m pc ls st0) rest (va_Qi post B A1 a) (vx_X px BX AX) free) (hS : va_S A0 H0 H locs) (hA : ∀ q, q < H.size → A1 q → A0 q) (hf : ∀ q, free q → A0 q) (hAX : ∀ q, q < H.size → AX q → A0 q)
    (kx : ∀ (E : String) (ce : Cell) (q9 : Addr) (u : SX) (t : State) (H1 : Heap) (locs1 : List Loc), t.heap = H1 → s.vm.Alike t.vm → px u → BX E u t → H.size ≤ H1.size → (∀ q : Nat, q < H.size → ¬ AX q → H1[q]? = H[q]?) → va_S A0 H0 H1 locs1 → H1[q9]? = some ce → ce.vm = .none → s.vm.findClass E = some ce.cls → vx_W p l e R s m args below meth c H1 locs1 (cells + mc) (slots + ms) Q (F0 m pc ls rest) q9)
    (kk : ∀ (r : Int32) (u : S) (t : State) (H1 : Heap) (locs1 : List Loc), t.heap = H1 → s.vm.Alike t.vm → post r u → B u t → H.size ≤ H1.size → (∀ q : Nat, q < H.size → ¬ A1 q → H1[q]? = H[q]?) → va_S A0 H0 H1 locs1 → W p l e R s m args below meth c H1 locs1 (cells + mc) (slots + ms) Q (F0 m (pc + 3) ls (.int r :: rest))) : W p l e R s m args below meth c H locs cells slots Q (F0 m pc ls st0) := by
  intro T hT X
  rcases hr T hT X with ⟨v, st₀, t, T', L, h0, X', hL, e1, e2, ⟨⟨r, u, hv, hp, hb⟩, hF⟩, st⟩ | ⟨q, st₀, t, T', L, E, ce, h0, X', hL, e1, e2, ⟨u, hp, hb, hF⟩, hce, hcv, hcl, st⟩
  · cases hv
    obtain ⟨k1, k2, k3⟩ := vx_keep h0 e1 hS hA hf hL hF
    obtain ⟨t2, a1, b1⟩ := kk r u t T'.heap (locs ++ L) e1.symm (by rw [← e2]; exact X'.warmed.alike) hp hb k1 k2 k3 T' rfl X'
    exact ⟨t2, st t2 a1, b1⟩
  · obtain ⟨k1, k2, k3⟩ := vx_keep h0 e1 hS hAX hf hL hF
    obtain ⟨t2, a1, b1⟩ := kx E ce q u t T'.heap (locs ++ L) e1.symm (by rw [← e2]; exact X'.warmed.alike) hp hb k1 k2 k3 (by rw [e1]; exact hce) hcv hcl T' rfl X'
    exact ⟨t2, st.trans a1, b1⟩
theorem vx_calll {S SX : Type} {post : Int64 → S → Prop} {px : SX → Prop} {B : S → State → Prop} {BX : String → SX → State → Prop} {AX : Nat → Prop} (hr : vx_Run p l e R s m args below meth c H locs cells slots mc ms (F0 m pc ls st0) rest (va_Ql post B A1 a) (vx_X px BX AX) free) (hS : va_S A0 H0 H locs) (hA : ∀ q, q < H.size → A1 q → A0 q) (hf : ∀ q, free q → A0 q) (hAX : ∀ q, q < H.size → AX q → A0 q)
    (kx : ∀ (E : String) (ce : Cell) (q9 : Addr) (u : SX) (t : State) (H1 : Heap) (locs1 : List Loc), t.heap = H1 → s.vm.Alike t.vm → px u → BX E u t → H.size ≤ H1.size → (∀ q : Nat, q < H.size → ¬ AX q → H1[q]? = H[q]?) → va_S A0 H0 H1 locs1 → H1[q9]? = some ce → ce.vm = .none → s.vm.findClass E = some ce.cls → vx_W p l e R s m args below meth c H1 locs1 (cells + mc) (slots + ms) Q (F0 m pc ls rest) q9)
    (kk : ∀ (r : Int64) (u : S) (t : State) (H1 : Heap) (locs1 : List Loc), t.heap = H1 → s.vm.Alike t.vm → post r u → B u t → H.size ≤ H1.size → (∀ q : Nat, q < H.size → ¬ A1 q → H1[q]? = H[q]?) → va_S A0 H0 H1 locs1 → W p l e R s m args below meth c H1 locs1 (cells + mc) (slots + ms) Q (F0 m (pc + 3) ls (.long r :: rest))) : W p l e R s m args below meth c H locs cells slots Q (F0 m pc ls st0) := by
  intro T hT X
  rcases hr T hT X with ⟨v, st₀, t, T', L, h0, X', hL, e1, e2, ⟨⟨r, u, hv, hp, hb⟩, hF⟩, st⟩ | ⟨q, st₀, t, T', L, E, ce, h0, X', hL, e1, e2, ⟨u, hp, hb, hF⟩, hce, hcv, hcl, st⟩
  · cases hv
    obtain ⟨k1, k2, k3⟩ := vx_keep h0 e1 hS hA hf hL hF
    obtain ⟨t2, a1, b1⟩ := kk r u t T'.heap (locs ++ L) e1.symm (by rw [← e2]; exact X'.warmed.alike) hp hb k1 k2 k3 T' rfl X'
    exact ⟨t2, st t2 a1, b1⟩
  · obtain ⟨k1, k2, k3⟩ := vx_keep h0 e1 hS hAX hf hL hF
    obtain ⟨t2, a1, b1⟩ := kx E ce q u t T'.heap (locs ++ L) e1.symm (by rw [← e2]; exact X'.warmed.alike) hp hb k1 k2 k3 (by rw [e1]; exact hce) hcv hcl T' rfl X'
    exact ⟨t2, st.trans a1, b1⟩
theorem vx_callf {S SX : Type} {post : UInt32 → S → Prop} {px : SX → Prop} {B : S → State → Prop} {BX : String → SX → State → Prop} {AX : Nat → Prop} (hr : vx_Run p l e R s m args below meth c H locs cells slots mc ms (F0 m pc ls st0) rest (va_Qf post B A1 a) (vx_X px BX AX) free) (hS : va_S A0 H0 H locs) (hA : ∀ q, q < H.size → A1 q → A0 q) (hf : ∀ q, free q → A0 q) (hAX : ∀ q, q < H.size → AX q → A0 q)
    (kx : ∀ (E : String) (ce : Cell) (q9 : Addr) (u : SX) (t : State) (H1 : Heap) (locs1 : List Loc), t.heap = H1 → s.vm.Alike t.vm → px u → BX E u t → H.size ≤ H1.size → (∀ q : Nat, q < H.size → ¬ AX q → H1[q]? = H[q]?) → va_S A0 H0 H1 locs1 → H1[q9]? = some ce → ce.vm = .none → s.vm.findClass E = some ce.cls → vx_W p l e R s m args below meth c H1 locs1 (cells + mc) (slots + ms) Q (F0 m pc ls rest) q9)
    (kk : ∀ (r : UInt32) (u : S) (t : State) (H1 : Heap) (locs1 : List Loc), t.heap = H1 → s.vm.Alike t.vm → post r u → B u t → H.size ≤ H1.size → (∀ q : Nat, q < H.size → ¬ A1 q → H1[q]? = H[q]?) → va_S A0 H0 H1 locs1 → W p l e R s m args below meth c H1 locs1 (cells + mc) (slots + ms) Q (F0 m (pc + 3) ls (.float r :: rest))) : W p l e R s m args below meth c H locs cells slots Q (F0 m pc ls st0) := by
  intro T hT X
  rcases hr T hT X with ⟨v, st₀, t, T', L, h0, X', hL, e1, e2, ⟨⟨r, u, hv, hp, hb⟩, hF⟩, st⟩ | ⟨q, st₀, t, T', L, E, ce, h0, X', hL, e1, e2, ⟨u, hp, hb, hF⟩, hce, hcv, hcl, st⟩
  · cases hv
    obtain ⟨k1, k2, k3⟩ := vx_keep h0 e1 hS hA hf hL hF
    obtain ⟨t2, a1, b1⟩ := kk r u t T'.heap (locs ++ L) e1.symm (by rw [← e2]; exact X'.warmed.alike) hp hb k1 k2 k3 T' rfl X'
    exact ⟨t2, st t2 a1, b1⟩
  · obtain ⟨k1, k2, k3⟩ := vx_keep h0 e1 hS hAX hf hL hF
    obtain ⟨t2, a1, b1⟩ := kx E ce q u t T'.heap (locs ++ L) e1.symm (by rw [← e2]; exact X'.warmed.alike) hp hb k1 k2 k3 (by rw [e1]; exact hce) hcv hcl T' rfl X'
    exact ⟨t2, st.trans a1, b1⟩
theorem vx_calld {S SX : Type} {post : UInt64 → S → Prop} {px : SX → Prop} {B : S → State → Prop} {BX : String → SX → State → Prop} {AX : Nat → Prop} (hr : vx_Run p l e R s m args below meth c H locs cells slots mc ms (F0 m pc ls st0) rest (va_Qd post B A1 a) (vx_X px BX AX) free) (hS : va_S A0 H0 H locs) (hA : ∀ q, q < H.size → A1 q → A0 q) (hf : ∀ q, free q → A0 q) (hAX : ∀ q, q < H.size → AX q → A0 q)
    (kx : ∀ (E : String) (ce : Cell) (q9 : Addr) (u : SX) (t : State) (H1 : Heap) (locs1 : List Loc), t.heap = H1 → s.vm.Alike t.vm → px u → BX E u t → H.size ≤ H1.size → (∀ q : Nat, q < H.size → ¬ AX q → H1[q]? = H[q]?) → va_S A0 H0 H1 locs1 → H1[q9]? = some ce → ce.vm = .none → s.vm.findClass E = some ce.cls → vx_W p l e R s m args below meth c H1 locs1 (cells + mc) (slots + ms) Q (F0 m pc ls rest) q9)
    (kk : ∀ (r : UInt64) (u : S) (t : State) (H1 : Heap) (locs1 : List Loc), t.heap = H1 → s.vm.Alike t.vm → post r u → B u t → H.size ≤ H1.size → (∀ q : Nat, q < H.size → ¬ A1 q → H1[q]? = H[q]?) → va_S A0 H0 H1 locs1 → W p l e R s m args below meth c H1 locs1 (cells + mc) (slots + ms) Q (F0 m (pc + 3) ls (.double r :: rest))) : W p l e R s m args below meth c H locs cells slots Q (F0 m pc ls st0) := by
  intro T hT X
  rcases hr T hT X with ⟨v, st₀, t, T', L, h0, X', hL, e1, e2, ⟨⟨r, u, hv, hp, hb⟩, hF⟩, st⟩ | ⟨q, st₀, t, T', L, E, ce, h0, X', hL, e1, e2, ⟨u, hp, hb, hF⟩, hce, hcv, hcl, st⟩
  · cases hv
    obtain ⟨k1, k2, k3⟩ := vx_keep h0 e1 hS hA hf hL hF
    obtain ⟨t2, a1, b1⟩ := kk r u t T'.heap (locs ++ L) e1.symm (by rw [← e2]; exact X'.warmed.alike) hp hb k1 k2 k3 T' rfl X'
    exact ⟨t2, st t2 a1, b1⟩
  · obtain ⟨k1, k2, k3⟩ := vx_keep h0 e1 hS hAX hf hL hF
    obtain ⟨t2, a1, b1⟩ := kx E ce q u t T'.heap (locs ++ L) e1.symm (by rw [← e2]; exact X'.warmed.alike) hp hb k1 k2 k3 (by rw [e1]; exact hce) hcv hcl T' rfl X'
    exact ⟨t2, st.trans a1, b1⟩
theorem vx_callv {S SX : Type} {post : S → Prop} {px : SX → Prop} {B : S → State → Prop} {BX : String → SX → State → Prop} {AX : Nat → Prop} (hr : vx_Run p l e R s m args below meth c H locs cells slots mc ms (F0 m pc ls st0) rest (va_Qv post B A1 a) (vx_X px BX AX) free) (hS : va_S A0 H0 H locs) (hA : ∀ q, q < H.size → A1 q → A0 q) (hf : ∀ q, free q → A0 q) (hAX : ∀ q, q < H.size → AX q → A0 q)
    (kx : ∀ (E : String) (ce : Cell) (q9 : Addr) (u : SX) (t : State) (H1 : Heap) (locs1 : List Loc), t.heap = H1 → s.vm.Alike t.vm → px u → BX E u t → H.size ≤ H1.size → (∀ q : Nat, q < H.size → ¬ AX q → H1[q]? = H[q]?) → va_S A0 H0 H1 locs1 → H1[q9]? = some ce → ce.vm = .none → s.vm.findClass E = some ce.cls → vx_W p l e R s m args below meth c H1 locs1 (cells + mc) (slots + ms) Q (F0 m pc ls rest) q9)
    (kk : ∀ (u : S) (t : State) (H1 : Heap) (locs1 : List Loc), t.heap = H1 → s.vm.Alike t.vm → post u → B u t → H.size ≤ H1.size → (∀ q : Nat, q < H.size → ¬ A1 q → H1[q]? = H[q]?) → va_S A0 H0 H1 locs1 → W p l e R s m args below meth c H1 locs1 (cells + mc) (slots + ms) Q (F0 m (pc + 3) ls (rest))) : W p l e R s m args below meth c H locs cells slots Q (F0 m pc ls st0) := by
  intro T hT X
  rcases hr T hT X with ⟨v, st₀, t, T', L, h0, X', hL, e1, e2, ⟨⟨u, hv, hp, hb⟩, hF⟩, st⟩ | ⟨q, st₀, t, T', L, E, ce, h0, X', hL, e1, e2, ⟨u, hp, hb, hF⟩, hce, hcv, hcl, st⟩
  · cases hv
    obtain ⟨k1, k2, k3⟩ := vx_keep h0 e1 hS hA hf hL hF
    obtain ⟨t2, a1, b1⟩ := kk u t T'.heap (locs ++ L) e1.symm (by rw [← e2]; exact X'.warmed.alike) hp hb k1 k2 k3 T' rfl X'
    exact ⟨t2, st t2 a1, b1⟩
  · obtain ⟨k1, k2, k3⟩ := vx_keep h0 e1 hS hAX hf hL hF
    obtain ⟨t2, a1, b1⟩ := kx E ce q u t T'.heap (locs ++ L) e1.symm (by rw [← e2]; exact X'.warmed.alike) hp hb k1 k2 k3 (by rw [e1]; exact hce) hcv hcl T' rfl X'
    exact ⟨t2, st.trans a1, b1⟩
/-- caught by the row x of this method's table; the rows ahead don't take it -/
theorem vx_catch {own name : String} {E : String} {ce : Cell} {q : Addr} (hown : s.vm.findClass own = some m.cls) (pre : List ExceptionTableEntry) (x : ExceptionTableEntry) (suf : List ExceptionTableEntry) (hsplit : c.exceptionTable.toList = pre ++ x :: suf)
    (hpass : ∀ z ∈ pre, covers z pc = false ∨ (z.catchType ≠ 0 ∧ ∃ nm : String, (Cond.classLink own z.catchType nm).before args s = true ∧ va_Nc E nm s)) (hx : covers x pc = true) (h0 : x.catchType ≠ 0)
    (hlink : (Cond.classLink own x.catchType name).before args s = true) (hcast : (Cond.castable E name).before args s = true) (hcell : H[q]? = some ce) (hv : ce.vm = .none) (hcl : s.vm.findClass E = some ce.cls)
    (kk : W p l e R s m args below meth c H locs cells slots Q (F0 m x.handlerPc ls [.ref q])) : vx_W p l e R s m args below meth c H locs cells slots Q (F0 m pc ls rest) q := by
  intro T hT X
  have hpl : e.platform.magicAccessors = ({} : Platform).magicAccessors := by rw [X.admits.platform]
  obtain ⟨c3, c4, hc3, hc4, hasg⟩ := Cond.castable_spec hcast
  cases Option.some.inj (hc3.symm.trans hcl)
  obtain ⟨c5, hc5, hcl5⟩ := Cond.classLink_spec hown hlink e.platform hpl
  cases Option.some.inj (hc4.symm.trans hc5)
  obtain ⟨vm', X', st⟩ := X.thenCaughtThrough q (g := F0 m pc ls rest) rfl (Steps.refl _) (by rw [hT]; exact hcell) (by rw [hv]; rfl) (by obtain ⟨k9, h9, -⟩ := Vm.findClass_spec hcl; exact ⟨k9, h9⟩) pre x suf hsplit
    (fun z hz => by
      rcases hpass z hz with h | ⟨hz0, nm, hl1, hn1⟩
      · exact Or.inl h
      · obtain ⟨c6, hc6, hcl6⟩ := Cond.classLink_spec hown hl1 e.platform hpl
        obtain ⟨a8, b8, h1, h2, h3⟩ := hn1
        cases Option.some.inj (h1.symm.trans hcl)
        cases Option.some.inj (h2.symm.trans hc6)
        exact Or.inr ⟨hz0, _, hcl6, h3⟩) hx (Or.inr ⟨h0, c4, hcl5, hasg⟩)
  obtain ⟨t, a1, b1⟩ := kk (T.setVm vm') hT X'
  exact ⟨t, st.trans a1, b1⟩
end Rows
section Ends
variable {p : Program} {l : Launch} {e : Env} {R : Room} {s : State} {m : MethodId} {args : Array Value} {below : List Frame} {meth : Method} {c : Code} {H : Heap} {locs : List Loc} {cells slots : Nat} {Q : State → Prop}
variable {mc ms : Nat} {free : Addr → Prop} {A0 A1 : Nat → Prop} {H0 : Heap} {a : Array Value} {ls : Array Slot} {st0 rest : List Value}
variable {Qc : Array Value → State → Outcome → State → Prop} {XC : String → State → State → Prop}
/-- what a body that may throw owes at its end -/
def vx_MQ (below : List Frame) (Qc : Array Value → State → Outcome → State → Prop) (XC : String → State → State → Prop) (a : Array Value) (s : State) (mc ms : Nat) (free : Addr → Prop) : State → Prop := fun t =>
  ∃ o, t.status = .running ∧ Ended t below o ∧ vx_Q Qc XC mc ms free a s o t
theorem vx_ret {g : JFrame} {mc ms : Nat} (k : W p l e R s m args below meth c H locs cells slots (MQ below Qc args s mc ms free) g) : W p l e R s m args below meth c H locs cells slots (vx_MQ below Qc XC args s mc ms free) g := by
  intro T hT X
  obtain ⟨t, a1, o, b1, b2, b3, b4⟩ := k T hT X
  exact ⟨t, a1, o, b1, b2, Or.inl ⟨b3, b4⟩⟩
/-- not caught here: it goes on to the caller -/
theorem vx_widen {g : JFrame} {q : Addr} {k n : Nat} (h1 : cells ≤ k) (h2 : slots ≤ n) (kk : vx_W p l e R s m args below meth c H locs k n Q g q) : vx_W p l e R s m args below meth c H locs cells slots Q g q := fun T hT X => kk T hT (stand_widen X h1 h2)
theorem vx_out {pc : Nat} {E : String} {ce : Cell} {q : Addr} {mc ms : Nat} (hout : ∀ x ∈ c.exceptionTable.toList, covers x pc = false) (hlocks : meth.locks = false) (hcell : H[q]? = some ce) (hv : ce.vm = .none) (hcl : s.vm.findClass E = some ce.cls)
    (hx : ∀ t : State, t.heap = H → s.vm.Alike t.vm → XC E s t) (hf : ∀ z ∈ locs, free z.base) (hc : cells ≤ mc) (hs : slots ≤ ms) :
    vx_W p l e R s m args below meth c H locs cells slots (vx_MQ below Qc XC args s mc ms free) (F0 m pc ls rest) q := by
  intro T hT X
  obtain ⟨st1, hrun, hend, hW, hsm⟩ := X.leaveThrown q (g := F0 m pc ls rest) rfl rfl rfl hout hlocks
  have hcell9 : (T.setFrames (.throwing q :: below)).heap[q]? = some ce := by
    show T.heap[q]? = some ce
    rw [hT]; exact hcell
  exact ⟨_, st1, .threw q, hrun, hend, Or.inr ⟨q, rfl, E, ce, locs, hx _ hT hW.alike, hcell9, hv, hcl, hW, hsm.mono hc hs, hf⟩⟩
theorem vx_frame {U : State} {k n : Nat} (h : s.sameButNew ({ U with vm := s.vm } : State) locs k n) : s.heap.size ≤ U.heap.size ∧ ∀ q : Nat, q < s.heap.size → (∀ z ∈ locs, z.base ≠ q) → U.heap[q]? = s.heap[q]? := by
  obtain ⟨-, h2, -, -, -, h6⟩ := h
  refine ⟨h2, fun q hq hz => ?_⟩
  obtain ⟨c9, e1, e2, e3, e4⟩ := h6 q _ (Array.getElem?_eq_getElem hq)
  have hs : c9.slots = (s.heap[q]).slots := Array.ext_getElem? fun i => e4 i fun hm => hz _ hm rfl
  have h9 : c9 = s.heap[q] := by
    rw [hs] at e2
    exact e2
  have e5 : U.heap[q]? = some c9 := e1
  rw [e5, h9, Array.getElem?_eq_getElem hq]
/-- the words of a throw but the four that speak of the heap -/
def vx_no (w : Cond) : Bool := decide (w ≠ .isRef (.static Bundle.tN "UNASSIGNED_STACK" Bundle.steD)) && decide (w ≠ .isRef (.static Bundle.tN "SUPPRESSED_SENTINEL" Bundle.listD)) && decide (w ≠ .laysStatic Bundle.tN "UNASSIGNED_STACK" Bundle.steD) && decide (w ≠ .laysStatic Bundle.tN "SUPPRESSED_SENTINEL" Bundle.listD)
def vx_at0 (own : String) (ic : Nat) (X : String) (names : List String) : List Cond := (Bundle.ownAtoms0 own ic X names).filter vx_no
def vx_atS (own : String) (ic : Nat) (X : String) (names : List String) : List Cond := (Bundle.ownAtoms own ic X names).filter vx_no
/-- a word that the tables alone decide, or a good one -/
def vx_ot (w : Cond) : Bool := w.onTables || goodWord w
theorem vx_ot_at {args a' : Array Value} {s U : State} {w : Cond} (hW : s.WarmedH U.vm) (hvm : s.vm = U.vm) (hg : vx_ot w = true) (h : w.before args s = true) : w.before a' U = true := by
  simp only [vx_ot, Bool.or_eq_true] at hg
  rcases hg with hg | hg
  · exact va_tabs hg hvm h
  · exact word_at hW (good_of_word hg) h
/-- a list's words: the good ones out of the method's own list, the others by premises of their own -/
theorem vx_hat {args : Array Value} {s : State} {L B : List Cond} (h1 : ∀ w ∈ L.filter goodWord, w.before args s = true) (h2 : ∀ w ∈ L.filter (fun w => !goodWord w), w ∈ B) (h3 : ∀ w ∈ B, w.before args s = true) : ∀ w ∈ L, w.before args s = true := by
  intro w hw
  by_cases g : goodWord w = true
  · exact h1 w (List.mem_filter.mpr ⟨hw, g⟩)
  · refine h3 w (h2 w (List.mem_filter.mpr ⟨hw, ?_⟩))
    show (!goodWord w) = true
    cases hgw : goodWord w
    · rfl
    · exact absurd hgw g
theorem vx_c {args : Array Value} {s : State} {w : Cond} {B : List Cond} (h : w.before args s = true) (t : ∀ w ∈ B, w.before args s = true) : ∀ w' ∈ w :: B, w'.before args s = true := fun w' h' => (List.mem_cons.mp h').elim (fun e => by rw [e]; exact h) (t w')
theorem vx_n {args : Array Value} {s : State} : ∀ w ∈ ([] : List Cond), w.before args s = true := fun _ h => nomatch h
theorem vx_own {args : Array Value} {s : State} {L : List Cond} (h1 : ∀ w ∈ L.filter vx_no, w.before args s = true)
    (hU : (Cond.isRef (.static Bundle.tN "UNASSIGNED_STACK" Bundle.steD)).before args s = true) (hN : (Cond.isRef (.static Bundle.tN "SUPPRESSED_SENTINEL" Bundle.listD)).before args s = true)
    (lU : (Cond.laysStatic Bundle.tN "UNASSIGNED_STACK" Bundle.steD).before args s = true) (lN : (Cond.laysStatic Bundle.tN "SUPPRESSED_SENTINEL" Bundle.listD).before args s = true) : ∀ w ∈ L, w.before args s = true := by
  intro w hw
  by_cases e1 : w = .isRef (.static Bundle.tN "UNASSIGNED_STACK" Bundle.steD)
  · rw [e1]; exact hU
  · by_cases e2 : w = .isRef (.static Bundle.tN "SUPPRESSED_SENTINEL" Bundle.listD)
    · rw [e2]; exact hN
    · by_cases e3 : w = .laysStatic Bundle.tN "UNASSIGNED_STACK" Bundle.steD
      · rw [e3]; exact lU
      · by_cases e4 : w = .laysStatic Bundle.tN "SUPPRESSED_SENTINEL" Bundle.listD
        · rw [e4]; exact lN
        · exact h1 w (List.mem_filter.mpr ⟨hw, by unfold vx_no; rw [decide_eq_true e1, decide_eq_true e2, decide_eq_true e3, decide_eq_true e4]; rfl⟩)
/-- where a static field lies, its class's statics cell in H -/
def vx_L (C n d : String) (A : Nat → Prop) (U : State) (H : Heap) : Prop := ∃ (c : ClassId) (k : Class) (i : Nat) (f : Field) (a : Nat) (cell : Cell), U.vm.findClass C = some c ∧ U.fieldFound? C n d = some (c, k, i, f) ∧ f.isStatic = true ∧ k.statics = some a ∧ H[a]? = some cell ∧ cell.vm.isStatics = true ∧ cell.cls = c ∧ f.slot < cell.slots.size ∧ k.staticTypes[f.slot]? = some f.type ∧ ¬ A a
theorem vx_L.moved {C n d : String} {A : Nat → Prop} {u U : State} {H : Heap} (hvm : u.vm.Alike U.vm) (h : vx_L C n d A u H) : vx_L C n d A U H := by
  obtain ⟨c, k, i, f, a, cell, h1, h2, h3, h4, h5, h6, h7, h8, h9, h10⟩ := h
  obtain ⟨k', hi', he⟩ := State.fieldFound?_setVm hvm h2
  exact ⟨c, k', i, f, a, cell, by rw [hvm.findClass]; exact h1, hi', h3, by rw [he]; exact h4, h5, h6, h7, h8, by rw [he]; exact h9, h10⟩
theorem vx_L.kept {C n d : String} {A : Nat → Prop} {U : State} {H H1 : Heap} (h : vx_L C n d A U H) (hq : ∀ a : Nat, a < H.size → ¬ A a → H1[a]? = H[a]?) : vx_L C n d A U H1 := by
  obtain ⟨c, k, i, f, a, cell, h1, h2, h3, h4, h5, h6, h7, h8, h9, h10⟩ := h
  exact ⟨c, k, i, f, a, cell, h1, h2, h3, h4, by rw [hq a (Array.getElem?_eq_some_iff.mp h5).1 h10]; exact h5, h6, h7, h8, h9, h10⟩
theorem vx_L.narrow {C n d : String} {A B : Nat → Prop} {U : State} {H : Heap} (h : vx_L C n d A U H) (hAB : ∀ q, B q → A q) : vx_L C n d B U H := by
  obtain ⟨c, k, i, f, a, cell, h1, h2, h3, h4, h5, h6, h7, h8, h9, h10⟩ := h
  exact ⟨c, k, i, f, a, cell, h1, h2, h3, h4, h5, h6, h7, h8, h9, fun z => h10 (hAB _ z)⟩
theorem vx_L.word {C n d : String} {A : Nat → Prop} {s : State} {args : Array Value} (h : vx_L C n d A s s.heap) : (Cond.laysStatic C n d).before args s = true := by
  obtain ⟨c, k, i, f, a, cell, h1, h2, h3, h4, h5, h6, h7, h8, h9, -⟩ := h
  show (Cond.laysStatic C n d).holds args s none s [] = true
  exact Cond.laysStatic_of h1 h2 h3 h4 h5 h6 h7 h8 h9
/-- .. and what it holds: null or some reference -/
def vx_Zq (C n d : String) (A : Nat → Prop) (U : State) (H : Heap) : Prop := va_Zq C n d A U H ∧ vx_L C n d A U H
theorem vx_Zq.moved {C n d : String} {A : Nat → Prop} {u U : State} {H : Heap} (hvm : u.vm.Alike U.vm) (h : vx_Zq C n d A u H) : vx_Zq C n d A U H := ⟨va_Zq.moved hvm h.1, vx_L.moved hvm h.2⟩
theorem vx_Zq.kept {C n d : String} {A : Nat → Prop} {U : State} {H H1 : Heap} (h : vx_Zq C n d A U H) (hq : ∀ a : Nat, a < H.size → ¬ A a → H1[a]? = H[a]?) : vx_Zq C n d A U H1 := ⟨va_Zq.kept h.1 hq, vx_L.kept h.2 hq⟩
theorem vx_Zq.narrow {C n d : String} {A B : Nat → Prop} {U : State} {H : Heap} (h : vx_Zq C n d A U H) (hAB : ∀ q, B q → A q) : vx_Zq C n d B U H := ⟨va_Zq.narrow h.1 hAB, vx_L.narrow h.2 hAB⟩
theorem vx_Zqof {args : Array Value} {s : State} {C n d : String} {A : Nat → Prop} (hl : (Cond.laysStatic C n d).before args s = true) (hini : (Cond.initialized C).before args s = true) (h : (Cond.isRef (.static C n d)).before args s = true) (hA : ∀ a : Nat, a < s.heap.size → ¬ A a) : vx_Zq C n d A s s.heap := by
  refine ⟨va_Zqof hl hini h hA, ?_⟩
  obtain ⟨c, k, i, f, a, cell, h1, h2, h3, h4, h5, h6, h7, h8, h9⟩ := Cond.laysStatic_spec hl
  exact ⟨c, k, i, f, a, cell, h1, h2, h3, h4, h5, h6, h7, h8, h9, hA a (Array.getElem?_eq_some_iff.mp h5).1⟩
theorem vx_isRef {C n d : String} {v : Value} {A : Nat → Prop} {s : State} {args : Array Value} (h : va_Z C n d v A s s.heap) (hv : v.isRef = true) : (Cond.isRef (.static C n d)).before args s = true := by
  obtain ⟨cf, kf, fi, f, a, cell, h1, h2, h3, h4, h5, h6, h7, -⟩ := h
  have he : (Term.static C n d).eval args s none [] s = some v := by
    simp [Term.eval, State.fieldNamed?, h1, h2, h4, h5, h6, h7]
  simp only [Cond.before, Cond.holds, Cond.value, he]
  cases v <;> simp_all [Value.isRef]
theorem vx_isRefq {C n d : String} {A : Nat → Prop} {s : State} {args : Array Value} (h : va_Zq C n d A s s.heap) : (Cond.isRef (.static C n d)).before args s = true := by
  rcases h with h | ⟨t, h⟩
  · exact vx_isRef h rfl
  · exact vx_isRef h rfl
/-- the same frame, seen from here: as if the method were called anew in this heap -/
theorem vx_rebase {T : State} (X : Stand p l e R s m args below meth c T locs cells slots) {R' : Room} (hf : R'.frames ≤ R.frames) (hl : R'.locals ≤ R.locals) (hc : cells + R'.cells ≤ R.cells) (hs : slots + R'.slots ≤ R.slots) :
    Stand p l e R' ((T.setVm s.vm).setFrames (.invoking m args :: below)) m args below meth c T [] 0 0 := by
  have htop : (T.setVm s.vm).topJava?.isSome := X.here.top
  have hF : ((T.setVm s.vm).setFrames (.invoking m args :: below)).frames = .invoking m args :: below := State.frames_setFrames _ (State.cur_lt_of_top htop)
  obtain ⟨g₀, hg0⟩ := Option.isSome_iff_exists.mp htop
  obtain ⟨r, hr⟩ := State.topJava?_eq_some.mp hg0
  have hl9 : e.platform.stackLimits (T.setVm s.vm).me = e.platform.stackLimits s.me := X.limits
  have hb9 : (T.setVm s.vm).me.stackBytes = s.me.stackBytes := X.bytes
  refine ⟨X.admits, X.cas, X.clock, hF, ?_, X.hears, X.method, X.code, X.here, X.tail, X.warmed, ?_, ?_, ?_⟩
  · have h := X.room
    have hU : ((T.setVm s.vm).setFrames (.invoking m args :: below)).localsInUse = s.localsInUse := by
      rw [State.localsInUse_invoking hF (meth := meth) (c := c) X.method X.code, State.localsInUse_invoking X.frames X.method X.code]
    simp only [State.hasRoom, Bool.and_eq_true, decide_eq_true_eq] at h ⊢
    obtain ⟨⟨⟨⟨h1, h2, h3, h4, h5, h6⟩, h7⟩, h8⟩, h9⟩ := h
    rw [X.frames, List.length_cons] at h2 h3
    have q1 := X.heapSize
    have q2 := X.used
    simp only [hF, hU, List.length_cons, State.stackLimits_setFrames, State.stackBytes_setFrames, hl9, hb9]
    refine ⟨⟨⟨⟨by omega, by omega, by omega, by omega, by omega, h6⟩, ?_⟩, ?_⟩, X.book⟩
    · show T.heap.size + R'.cells ≤ e.platform.maxCells
      omega
    · show T.slotsUsed + R'.slots ≤ e.platform.maxSlots
      omega
  · rw [State.stackLimits_setFrames]; rfl
  · rw [State.stackBytes_setFrames]; rfl
  · refine ⟨?_, Nat.le_refl _, Nat.le_refl _, ?_, ?_, fun a c9 h9 => ⟨c9, h9, rfl, rfl, fun _ _ => rfl⟩⟩
    · obtain ⟨t, ht, -⟩ := State.frames_cons hr
      show T.setVm s.vm = { ((T.setVm s.vm).setFrames (.invoking m args :: below)).setFrames (T.setVm s.vm).frames with heap := T.heap, slotsUsed := T.slotsUsed }
      rw [State.setFrames_setFrames, State.setFrames_self ht]
      rfl
    · show T.slotsUsed = T.slotsUsed + ((T.heap.toList.drop T.heap.size).map (·.slots.size)).sum
      rw [List.drop_eq_nil_of_le (Nat.le_of_eq Array.length_toList)]
      rfl
    · show ((T.heap.toList.drop T.heap.size).map (·.slots.size)).sum ≤ 0
      rw [List.drop_eq_nil_of_le (Nat.le_of_eq Array.length_toList)]
      exact Nat.le_refl _
/-- 'throw new E()': new; dup; invokespecial; athrow -/
theorem vx_throw0 {cc : ByteArray} {pc : Nat} (hexec : p.tables.exec = Jvm.exec) (hb : c.code = cc) (hl : l.stackTraces = false) {own cls : String} {names : List String} {ik ic mc ms : Nat} {A : Nat → Prop}
    (hown : s.vm.findClass own = some m.cls) (hcls : Bundle.fit cls = true) (hnames : ∀ n ∈ names, Bundle.fit n = true)
    (hk : (Cond.classLink own ik cls).before args s = true) (hini : (Cond.initialized cls).before args s = true) (hat : ∀ w ∈ vx_at0 own ic cls names, w.before args s = true)
    (hgood : ∀ w ∈ Cond.classLink own ik cls :: Cond.initialized cls :: vx_at0 own ic cls names, vx_ot w = true)
    (hU : vx_Zq Bundle.tN "UNASSIGNED_STACK" Bundle.steD A s s.heap) (hN : vx_Zq Bundle.tN "SUPPRESSED_SENTINEL" Bundle.listD A s s.heap) (hS : va_S A s.heap H locs) (hsize : ls.size = c.maxLocals)
    (d0 : decode cc pc = .ok (.new ik, 3)) (d3 : decode cc (pc + 3) = .ok (.dup, 1)) (d4 : decode cc (pc + 4) = .ok (.invokespecial ic, 3)) (d7 : decode cc (pc + 7) = .ok (.athrow, 1))
    (hout : ∀ x ∈ c.exceptionTable.toList, covers x (pc + 7) = false)
    (hRframes : names.length + 3 < R.frames) (hRlocals : (rest.map fun v => v.category).sum + (13 * (names.length + 1) + 42) ≤ R.locals) (hRcells : cells + 1 ≤ R.cells) (hRslots : slots + 6 ≤ R.slots) (hlocks : meth.locks = false)
    (hx : ∀ t : State, s.vm.Alike t.vm → H.size ≤ t.heap.size → (∀ q : Nat, q < H.size → t.heap[q]? = H[q]?) → XC cls s t)
    (hf : ∀ z ∈ locs, free z.base) (hc : cells + 1 ≤ mc) (hs : slots + 6 ≤ ms) :
    W p l e R s m args below meth c H locs cells slots (vx_MQ below Qc XC args s mc ms free) (F0 m pc ls rest) := by
  intro T hT X
  have htr : e.platform.stackTraces = false := (show e.platform.stackTraces = l.stackTraces by rw [X.admits.platform]).trans hl
  have Y := vx_rebase X (R' := { frames := R.frames, locals := R.locals, cells := 1, slots := 6 }) (Nat.le_refl _) (Nat.le_refl _) hRcells hRslots
  obtain ⟨s', hA⟩ : ∃ z, z = (T.setVm s.vm).setFrames (.invoking m args :: below) := ⟨_, rfl⟩
  rw [← hA] at Y
  have hvm : s'.vm = s.vm := by rw [hA]; rfl
  have hhp : s'.heap = H := by rw [hA]; exact hT
  have hW0 : s.WarmedH s'.vm := by rw [hvm]; exact State.WarmedH.refl s
  have hat' : ∀ w ∈ vx_at0 own ic cls names, w.before args s' = true := fun w hw => vx_ot_at hW0 hvm.symm (hgood w (List.mem_cons_of_mem _ (List.mem_cons_of_mem _ hw))) (hat w hw)
  have hk' : (Cond.classLink own ik cls).before args s' = true := vx_ot_at hW0 hvm.symm (hgood _ List.mem_cons_self) hk
  have hini' : (Cond.initialized cls).before args s' = true := vx_ot_at hW0 hvm.symm (hgood _ (List.mem_cons_of_mem _ List.mem_cons_self)) hini
  have hU' : vx_Zq Bundle.tN "UNASSIGNED_STACK" Bundle.steD A s' s'.heap := by rw [hhp]; exact vx_Zq.moved hW0.alike (hU.kept hS.2.1)
  have hN' : vx_Zq Bundle.tN "SUPPRESSED_SENTINEL" Bundle.listD A s' s'.heap := by rw [hhp]; exact vx_Zq.moved hW0.alike (hN.kept hS.2.1)
  have h : ∀ w ∈ Bundle.ownAtoms0 own ic cls names, w.before args s' = true := vx_own hat' (vx_isRefq hU'.1) (vx_isRefq hN'.1) hU'.2.word hN'.2.word
  have hown' : s'.vm.findClass own = some m.cls := by rw [hvm]; exact hown
  have hins : (Cond.instantiable cls 6).before args s' = true := h _ (by simp [Bundle.ownAtoms0])
  obtain ⟨vm₁, cX, kX, hfX, hkX, -, -, X₁, st1⟩ := Y.newCold hexec (own := own) (C := cls) (index := ik) (n := 6) hown' hk' hins hini'
    (g := F0 m pc ls rest) rfl (by rw [hb]; exact d0) (Nat.le_refl _) (Nat.le_refl _)
  generalize hT1 : (T.setVm vm₁).pushCell { cls := cX, slots := kX.instanceTypes.map defaultValue, vm := .none } = T1 at X₁ st1
  have hcat : (Value.ref T.heap.size).category = 1 := rfl
  have hcellA : T1.heap[T.heap.size]? = some (freshCell cX kX) := by rw [← hT1]; exact State.heap_pushCell_size _ _
  have d3' : decode c.code (pc + 3) = .ok (.dup, 1) := by rw [hb]; exact d3
  obtain ⟨U, hsteps, hrun, hend, hW, hsame, ce, hce, hO⟩ := X₁.ctorThrow0 hexec htr (own := own) (cls := cls) (names := names) (ic := ic) hown' hcls hnames h (fun x hx => nomatch hx) hfX hkX hcellA (by rw [hhp, hT]; exact Nat.le_refl _)
    (g := { method := m, pc := pc + 4, locals := ls, stack := .ref T.heap.size :: .ref T.heap.size :: rest, locked := none }) rfl hsize rfl rfl (rest := rest) rfl
    (by rw [hb]; exact d4) (by rw [hb]; exact d7) hout hRframes (by simp only [List.map_cons, List.sum_cons, hcat]; omega) hlocks
  obtain ⟨f1, f2⟩ := vx_frame hsame
  rw [hhp] at f1 f2
  have hWs : s.WarmedH U.vm := State.WarmedH.trans hW0 hW
  have hcl : s.vm.findClass cls = some ce.cls := by
    have h9 := hO.cls
    rw [hvm] at h9
    exact h9
  have hall : s.sameButNew ({ U with vm := s.vm } : State) locs mc ms := by
    subst hA
    obtain ⟨e1, e2⟩ := hsame
    rw [State.setFrames_setFrames] at e1
    have h2 : (T.setVm s.vm).sameButNew ({ U with vm := s.vm } : State) [] (0 + 1) (0 + 6) := ⟨e1, e2⟩
    have h3 := X.same.trans h2
    rw [List.append_nil] at h3
    exact h3.mono hc hs
  refine ⟨U, ?_, .threw T.heap.size, hrun, hend, Or.inr ⟨T.heap.size, rfl, cls, ce, locs, hx U hWs.alike f1 (fun q hq => f2 q hq (fun z hz => nomatch hz)), hce, hO.vm, hcl, hWs, hall, hf⟩⟩
  refine st1 _ ?_
  show Steps p.tables e below (T1.setTop { method := m, pc := pc + 3, locals := ls, stack := .ref T.heap.size :: rest, locked := none }) _
  jvm_step X₁.here [X₁.here.top, hexec, d3', Value.category]
  exact hsteps
/-- 'throw new E("text")': new; dup; ldc; invokespecial; athrow -/
theorem vx_throwS {cc : ByteArray} {pc : Nat} (hexec : p.tables.exec = Jvm.exec) (hb : c.code = cc) (hl : l.stackTraces = false) {own cls text : String} {names : List String} {ik is ic mc ms sa : Nat} {A : Nat → Prop}
    (hown : s.vm.findClass own = some m.cls) (hcls : Bundle.fit cls = true) (hnames : ∀ n ∈ names, Bundle.fit n = true)
    (hk : (Cond.classLink own ik cls).before args s = true) (hini : (Cond.initialized cls).before args s = true) (hstr : vk_R own is text sa s) (hat : ∀ w ∈ vx_atS own ic cls names, w.before args s = true)
    (hgood : ∀ w ∈ Cond.classLink own ik cls :: Cond.initialized cls :: vx_atS own ic cls names, vx_ot w = true)
    (hU : vx_Zq Bundle.tN "UNASSIGNED_STACK" Bundle.steD A s s.heap) (hN : vx_Zq Bundle.tN "SUPPRESSED_SENTINEL" Bundle.listD A s s.heap) (hS : va_S A s.heap H locs) (hsize : ls.size = c.maxLocals)
    (d0 : decode cc pc = .ok (.new ik, 3)) (d3 : decode cc (pc + 3) = .ok (.dup, 1)) (d4 : decode cc (pc + 4) = .ok (.ldc is, 2)) (d6 : decode cc (pc + 6) = .ok (.invokespecial ic, 3)) (d9 : decode cc (pc + 9) = .ok (.athrow, 1))
    (hout : ∀ x ∈ c.exceptionTable.toList, covers x (pc + 9) = false)
    (hRframes : names.length + 3 < R.frames) (hRlocals : (rest.map fun v => v.category).sum + (13 * (names.length + 1) + 43) ≤ R.locals) (hRcells : cells + 1 ≤ R.cells) (hRslots : slots + 6 ≤ R.slots) (hlocks : meth.locks = false)
    (hx : ∀ t : State, s.vm.Alike t.vm → H.size ≤ t.heap.size → (∀ q : Nat, q < H.size → t.heap[q]? = H[q]?) → XC cls s t)
    (hf : ∀ z ∈ locs, free z.base) (hc : cells + 1 ≤ mc) (hs : slots + 6 ≤ ms) :
    W p l e R s m args below meth c H locs cells slots (vx_MQ below Qc XC args s mc ms free) (F0 m pc ls rest) := by
  intro T hT X
  have htr : e.platform.stackTraces = false := (show e.platform.stackTraces = l.stackTraces by rw [X.admits.platform]).trans hl
  have Y := vx_rebase X (R' := { frames := R.frames, locals := R.locals, cells := 1, slots := 6 }) (Nat.le_refl _) (Nat.le_refl _) hRcells hRslots
  obtain ⟨s', hA⟩ : ∃ z, z = (T.setVm s.vm).setFrames (.invoking m args :: below) := ⟨_, rfl⟩
  rw [← hA] at Y
  have hvm : s'.vm = s.vm := by rw [hA]; rfl
  have hhp : s'.heap = H := by rw [hA]; exact hT
  have hW0 : s.WarmedH s'.vm := by rw [hvm]; exact State.WarmedH.refl s
  have hat' : ∀ w ∈ vx_atS own ic cls names, w.before args s' = true := fun w hw => vx_ot_at hW0 hvm.symm (hgood w (List.mem_cons_of_mem _ (List.mem_cons_of_mem _ hw))) (hat w hw)
  have hk' : (Cond.classLink own ik cls).before args s' = true := vx_ot_at hW0 hvm.symm (hgood _ List.mem_cons_self) hk
  have hini' : (Cond.initialized cls).before args s' = true := vx_ot_at hW0 hvm.symm (hgood _ (List.mem_cons_of_mem _ List.mem_cons_self)) hini
  have hU' : vx_Zq Bundle.tN "UNASSIGNED_STACK" Bundle.steD A s' s'.heap := by rw [hhp]; exact vx_Zq.moved hW0.alike (hU.kept hS.2.1)
  have hN' : vx_Zq Bundle.tN "SUPPRESSED_SENTINEL" Bundle.listD A s' s'.heap := by rw [hhp]; exact vx_Zq.moved hW0.alike (hN.kept hS.2.1)
  have h : ∀ w ∈ Bundle.ownAtoms own ic cls names, w.before args s' = true := vx_own hat' (vx_isRefq hU'.1) (vx_isRefq hN'.1) hU'.2.word hN'.2.word
  have hown' : s'.vm.findClass own = some m.cls := by rw [hvm]; exact hown
  have hins : (Cond.instantiable cls 6).before args s' = true := h _ (by simp [Bundle.ownAtoms])
  obtain ⟨vm₁, cX, kX, hfX, hkX, -, -, X₁, st1⟩ := Y.newCold hexec (own := own) (C := cls) (index := ik) (n := 6) hown' hk' hins hini'
    (g := F0 m pc ls rest) rfl (by rw [hb]; exact d0) (Nat.le_refl _) (Nat.le_refl _)
  generalize hT1 : (T.setVm vm₁).pushCell { cls := cX, slots := kX.instanceTypes.map defaultValue, vm := .none } = T1 at X₁ st1
  have hcat : (Value.ref T.heap.size).category = 1 := rfl
  have hcellA : T1.heap[T.heap.size]? = some (freshCell cX kX) := by rw [← hT1]; exact State.heap_pushCell_size _ _
  have d3' : decode c.code (pc + 3) = .ok (.dup, 1) := by rw [hb]; exact d3
  have d4' : decode c.code (pc + 4) = .ok (.ldc is, 2) := by rw [hb]; exact d4
  have hstr' : vk_R own is text sa s' := vk_R.warm hW0 hstr
  obtain ⟨U, hsteps, hrun, hend, hW, hsame, ce, hce, hO⟩ := X₁.ctorThrowS hexec htr (own := own) (cls := cls) (names := names) (ic := ic) hown' hcls hnames h (fun x hx => nomatch hx) hfX hkX hcellA (by rw [hhp, hT]; exact Nat.le_refl _) (msg := .ref sa) rfl
    (g := { method := m, pc := pc + 6, locals := ls, stack := .ref sa :: .ref T.heap.size :: .ref T.heap.size :: rest, locked := none }) rfl hsize rfl rfl (rest := rest) rfl
    (by rw [hb]; exact d6) (by rw [hb]; exact d9) hout hRframes (by simp only [List.map_cons, List.sum_cons, hcat]; omega) hlocks
  obtain ⟨f1, f2⟩ := vx_frame hsame
  rw [hhp] at f1 f2
  have hWs : s.WarmedH U.vm := State.WarmedH.trans hW0 hW
  have hcl : s.vm.findClass cls = some ce.cls := by
    have h9 := hO.cls
    rw [hvm] at h9
    exact h9
  have hall : s.sameButNew ({ U with vm := s.vm } : State) locs mc ms := by
    subst hA
    obtain ⟨e1, e2⟩ := hsame
    rw [State.setFrames_setFrames] at e1
    have h2 : (T.setVm s.vm).sameButNew ({ U with vm := s.vm } : State) [] (0 + 1) (0 + 6) := ⟨e1, e2⟩
    have h3 := X.same.trans h2
    rw [List.append_nil] at h3
    exact h3.mono hc hs
  refine ⟨U, ?_, .threw T.heap.size, hrun, hend, Or.inr ⟨T.heap.size, rfl, cls, ce, locs, hx U hWs.alike f1 (fun q hq => f2 q hq (fun z hz => nomatch hz)), hce, hO.vm, hcl, hWs, hall, hf⟩⟩
  refine st1 _ ?_
  show Steps p.tables e below (T1.setTop { method := m, pc := pc + 3, locals := ls, stack := .ref T.heap.size :: rest, locked := none }) _
  jvm_step X₁.here [X₁.here.top, hexec, d3', Value.category]
  exact X₁.ldcString hexec (own := own) (text := text) (index := is) (a := sa) hown' hstr'.1 hstr'.2
    (g := { method := m, pc := pc + 4, locals := ls, stack := .ref T.heap.size :: .ref T.heap.size :: rest, locked := none }) rfl d4' _ hsteps
/-- 'throw new E("text")', the text by a wide index -/
theorem vx_throwSW {cc : ByteArray} {pc : Nat} (hexec : p.tables.exec = Jvm.exec) (hb : c.code = cc) (hl : l.stackTraces = false) {own cls text : String} {names : List String} {ik is ic mc ms sa : Nat} {A : Nat → Prop}
    (hown : s.vm.findClass own = some m.cls) (hcls : Bundle.fit cls = true) (hnames : ∀ n ∈ names, Bundle.fit n = true)
    (hk : (Cond.classLink own ik cls).before args s = true) (hini : (Cond.initialized cls).before args s = true) (hstr : vk_R own is text sa s) (hat : ∀ w ∈ vx_atS own ic cls names, w.before args s = true)
    (hgood : ∀ w ∈ Cond.classLink own ik cls :: Cond.initialized cls :: vx_atS own ic cls names, vx_ot w = true)
    (hU : vx_Zq Bundle.tN "UNASSIGNED_STACK" Bundle.steD A s s.heap) (hN : vx_Zq Bundle.tN "SUPPRESSED_SENTINEL" Bundle.listD A s s.heap) (hS : va_S A s.heap H locs) (hsize : ls.size = c.maxLocals)
    (d0 : decode cc pc = .ok (.new ik, 3)) (d3 : decode cc (pc + 3) = .ok (.dup, 1)) (d4 : decode cc (pc + 4) = .ok (.ldc_w is, 3)) (d7 : decode cc (pc + 7) = .ok (.invokespecial ic, 3)) (d10 : decode cc (pc + 10) = .ok (.athrow, 1))
    (hout : ∀ x ∈ c.exceptionTable.toList, covers x (pc + 10) = false)
    (hRframes : names.length + 3 < R.frames) (hRlocals : (rest.map fun v => v.category).sum + (13 * (names.length + 1) + 43) ≤ R.locals) (hRcells : cells + 1 ≤ R.cells) (hRslots : slots + 6 ≤ R.slots) (hlocks : meth.locks = false)
    (hx : ∀ t : State, s.vm.Alike t.vm → H.size ≤ t.heap.size → (∀ q : Nat, q < H.size → t.heap[q]? = H[q]?) → XC cls s t)
    (hf : ∀ z ∈ locs, free z.base) (hc : cells + 1 ≤ mc) (hs : slots + 6 ≤ ms) :
    W p l e R s m args below meth c H locs cells slots (vx_MQ below Qc XC args s mc ms free) (F0 m pc ls rest) := by
  intro T hT X
  have htr : e.platform.stackTraces = false := (show e.platform.stackTraces = l.stackTraces by rw [X.admits.platform]).trans hl
  have Y := vx_rebase X (R' := { frames := R.frames, locals := R.locals, cells := 1, slots := 6 }) (Nat.le_refl _) (Nat.le_refl _) hRcells hRslots
  obtain ⟨s', hA⟩ : ∃ z, z = (T.setVm s.vm).setFrames (.invoking m args :: below) := ⟨_, rfl⟩
  rw [← hA] at Y
  have hvm : s'.vm = s.vm := by rw [hA]; rfl
  have hhp : s'.heap = H := by rw [hA]; exact hT
  have hW0 : s.WarmedH s'.vm := by rw [hvm]; exact State.WarmedH.refl s
  have hat' : ∀ w ∈ vx_atS own ic cls names, w.before args s' = true := fun w hw => vx_ot_at hW0 hvm.symm (hgood w (List.mem_cons_of_mem _ (List.mem_cons_of_mem _ hw))) (hat w hw)
  have hk' : (Cond.classLink own ik cls).before args s' = true := vx_ot_at hW0 hvm.symm (hgood _ List.mem_cons_self) hk
  have hini' : (Cond.initialized cls).before args s' = true := vx_ot_at hW0 hvm.symm (hgood _ (List.mem_cons_of_mem _ List.mem_cons_self)) hini
  have hU' : vx_Zq Bundle.tN "UNASSIGNED_STACK" Bundle.steD A s' s'.heap := by rw [hhp]; exact vx_Zq.moved hW0.alike (hU.kept hS.2.1)
  have hN' : vx_Zq Bundle.tN "SUPPRESSED_SENTINEL" Bundle.listD A s' s'.heap := by rw [hhp]; exact vx_Zq.moved hW0.alike (hN.kept hS.2.1)
  have h : ∀ w ∈ Bundle.ownAtoms own ic cls names, w.before args s' = true := vx_own hat' (vx_isRefq hU'.1) (vx_isRefq hN'.1) hU'.2.word hN'.2.word
  have hown' : s'.vm.findClass own = some m.cls := by rw [hvm]; exact hown
  have hins : (Cond.instantiable cls 6).before args s' = true := h _ (by simp [Bundle.ownAtoms])
  obtain ⟨vm₁, cX, kX, hfX, hkX, -, -, X₁, st1⟩ := Y.newCold hexec (own := own) (C := cls) (index := ik) (n := 6) hown' hk' hins hini'
    (g := F0 m pc ls rest) rfl (by rw [hb]; exact d0) (Nat.le_refl _) (Nat.le_refl _)
  generalize hT1 : (T.setVm vm₁).pushCell { cls := cX, slots := kX.instanceTypes.map defaultValue, vm := .none } = T1 at X₁ st1
  have hcat : (Value.ref T.heap.size).category = 1 := rfl
  have hcellA : T1.heap[T.heap.size]? = some (freshCell cX kX) := by rw [← hT1]; exact State.heap_pushCell_size _ _
  have d3' : decode c.code (pc + 3) = .ok (.dup, 1) := by rw [hb]; exact d3
  have d4' : decode c.code (pc + 4) = .ok (.ldc_w is, 3) := by rw [hb]; exact d4
  have hstr' : vk_R own is text sa s' := vk_R.warm hW0 hstr
  obtain ⟨U, hsteps, hrun, hend, hW, hsame, ce, hce, hO⟩ := X₁.ctorThrowS hexec htr (own := own) (cls := cls) (names := names) (ic := ic) hown' hcls hnames h (fun x hx => nomatch hx) hfX hkX hcellA (by rw [hhp, hT]; exact Nat.le_refl _) (msg := .ref sa) rfl
    (g := { method := m, pc := pc + 7, locals := ls, stack := .ref sa :: .ref T.heap.size :: .ref T.heap.size :: rest, locked := none }) rfl hsize rfl rfl (rest := rest) rfl
    (by rw [hb]; exact d7) (by rw [hb]; exact d10) hout hRframes (by simp only [List.map_cons, List.sum_cons, hcat]; omega) hlocks
  obtain ⟨f1, f2⟩ := vx_frame hsame
  rw [hhp] at f1 f2
  have hWs : s.WarmedH U.vm := State.WarmedH.trans hW0 hW
  have hcl : s.vm.findClass cls = some ce.cls := by
    have h9 := hO.cls
    rw [hvm] at h9
    exact h9
  have hall : s.sameButNew ({ U with vm := s.vm } : State) locs mc ms := by
    subst hA
    obtain ⟨e1, e2⟩ := hsame
    rw [State.setFrames_setFrames] at e1
    have h2 : (T.setVm s.vm).sameButNew ({ U with vm := s.vm } : State) [] (0 + 1) (0 + 6) := ⟨e1, e2⟩
    have h3 := X.same.trans h2
    rw [List.append_nil] at h3
    exact h3.mono hc hs
  refine ⟨U, ?_, .threw T.heap.size, hrun, hend, Or.inr ⟨T.heap.size, rfl, cls, ce, locs, hx U hWs.alike f1 (fun q hq => f2 q hq (fun z hz => nomatch hz)), hce, hO.vm, hcl, hWs, hall, hf⟩⟩
  refine st1 _ ?_
  show Steps p.tables e below (T1.setTop { method := m, pc := pc + 3, locals := ls, stack := .ref T.heap.size :: rest, locked := none }) _
  jvm_step X₁.here [X₁.here.top, hexec, d3', Value.category]
  exact X₁.ldcStringW hexec (own := own) (text := text) (index := is) (a := sa) hown' hstr'.1 hstr'.2
    (g := { method := m, pc := pc + 4, locals := ls, stack := .ref T.heap.size :: .ref T.heap.size :: rest, locked := none }) rfl d4' _ hsteps
end Ends
section Bodies
variable {l : Launch}
theorem vx_ofW {y : MethodName} {ws ws' : List Cond} {rm : Room} {Pc : Array Value → State → Prop} {Qc : Array Value → State → Outcome → State → Prop} {XC : String → State → State → Prop} {mc ms : Nat} {free : Addr → Prop} {cc : ByteArray} {maxL : Nat} {ret : Option FieldType}
    (hy : plainName y.cls = true) (hw : ws = Cond.code y cc maxL ret :: ws')
    (body : ∀ p e s m args below meth c s₁, BodyLoose p l y (headSpec ws rm) cc maxL ret e s m args below meth c s₁ → c.maxLocals = maxL → (∀ x ∈ c.exceptionTable.toList, False) → Pc args s →
      W p l e (headSpec ws rm).room s m args below meth c s.heap [] 0 0 (vx_MQ below Qc XC args s mc ms free) (entryFrame m args maxL)) : vx_Met l y ws rm Pc Qc XC mc ms free := by
  refine MetFree.of_bodyS (code := cc) (maxLocals := maxL) (ret := ret) hy ?_ ?_
  · intro args s m h hn
    obtain ⟨meth, c, h1, h2, h3, h4, h5, h6, -, -⟩ := Cond.code_spec hn (atoms_spec (ws := ws) h _ (by rw [hw]; exact List.mem_cons_self))
    exact ⟨meth, c, h1, h2, h3, h4, h5, h6⟩
  · intro p e s m args below meth c s₁ B hml hP _
    have hh0 : s₁.heap = s.heap := by rw [B.state]; rfl
    have ht : ∀ x ∈ c.exceptionTable.toList, False := by
      obtain ⟨meth9, c9, h1, h2, -, -, -, -, h7, -⟩ := Cond.code_spec B.named (atoms_spec (ws := ws) B.pre _ (by rw [hw]; exact List.mem_cons_self))
      cases Option.some.inj (h1.symm.trans B.method)
      cases Option.some.inj (h2.symm.trans (Stand.of_body B).code)
      intro x hx
      rw [Array.isEmpty_iff.mp h7] at hx
      cases hx
    obtain ⟨t, a1, o, b1, b2, b3⟩ := body p e s m args below meth c s₁ B hml ht hP s₁ hh0 (Stand.of_body B)
    exact ⟨t, o, a1, b1, b2, b3⟩
/-- the table of a body with handlers -/
theorem vx_table {p : Program} {x y : MethodName} {S : Spec} {cc bytes : ByteArray} {maxL maxL' : Nat} {ret ret' : Option FieldType} {e : Env} {s s₁ : State} {m : MethodId} {args : Array Value} {below : List Frame} {meth : Method} {c : Code} {hh : List (Nat × Nat × Nat × Nat)}
    (B : BodyLoose p l y S cc maxL ret e s m args below meth c s₁) (h : (Cond.codeWith y bytes maxL' ret' hh).before args s = true) : c.exceptionTable.toList = tableOf hh := by
  obtain ⟨m9, meth9, c9, hn9, h1, h2, -, -, h6, -⟩ := Cond.codeWith_spec h
  cases Option.some.inj (hn9.symm.trans B.named)
  cases Option.some.inj (h1.symm.trans B.method)
  cases Option.some.inj (h2.symm.trans (Stand.of_body B).code)
  rw [← h6, table_eq]
end Bodies
end VXA
/-! ===== END ===== -/
/-! ===== BEGIN a static call of a method with an exception table ===== -/
section VXS
variable {p : Program} {l : Launch} {e : Env} {R : Room} {s : State} {m : MethodId} {args : Array Value} {below : List Frame} {meth : Method} {c : Code} {T : State} {H : Heap} {locs : List Loc} {cells slots : Nat}
abbrev vx_CSW (R : Room) (s : State) (args : Array Value) (own : String) (index : Nat) (y : MethodName) (bytes : ByteArray) (maxL : Nat) (ret : Option FieldType) (hh : List (Nat × Nat × Nat × Nat)) (ws : List Cond) (rm : Room) (mc ms n : Nat) : Prop :=
  (rm.cells = mc ∧ rm.slots = ms ∧ rm.frames + 1 ≤ R.frames ∧ 8 + (maxL + 11) + rm.locals ≤ R.locals ∧ (∀ w ∈ ws, ∀ (a' : Array Value) (U : State), s.WarmedH U.vm → w.before a' U = true) ∧ Cond.codeWith y bytes maxL ret hh ∈ ws) ∧
  (Cond.codeWith y bytes maxL ret hh).before args s = true ∧ (Cond.initialized y.cls).before args s = true ∧ (y.cls ≠ "java/lang/invoke/MethodHandle" ∧ y.cls ≠ "java/lang/invoke/VarHandle") ∧
  (∀ sig, parseMethodDescriptor y.desc = some sig → n = sig.parameters.length) ∧ (Cond.methodLink own index y).before args s = true ∧ (Cond.static y).before args s = true
theorem vx_cwSW {own : String} {index maxL mc ms : Nat} {y : MethodName} {bytes : ByteArray} {ret : Option FieldType} {hh : List (Nat × Nat × Nat × Nat)} {Ts ws ws' : List Cond} {rm : Room} (n : Nat) (ht : ∀ w ∈ Ts, w.before args s = true) (hT : GoodIn Ts (va_wsS own index y ws)) (hw : ws = Cond.codeWith y bytes maxL ret hh :: ws') (hrc : rm.cells = mc) (hrs : rm.slots = ms)
    (hd : y.cls ≠ "java/lang/invoke/MethodHandle" ∧ y.cls ≠ "java/lang/invoke/VarHandle" ∧ (parseMethodDescriptor y.desc).map (fun d => d.parameters.length) = some n) (hR : rm.frames + 1 ≤ R.frames ∧ 8 + (maxL + 11) + rm.locals ≤ R.locals) :
    vx_CSW R s args own index y bytes maxL ret hh ws rm mc ms n := by
  have ok : ∀ w ∈ va_wsS own index y ws, w.before args s = true := fun w h => ht w (hT w h).1
  have hG : GoodIn Ts ws := fun w h => hT w (by unfold va_wsS; exact List.mem_append_right _ h)
  have hc : Cond.codeWith y bytes maxL ret hh ∈ ws := by rw [hw]; exact List.mem_cons_self
  refine ⟨⟨hrc, hrs, hR.1, hR.2, pay_in ht hG, hc⟩, ht _ (hG _ hc).1, ok _ (by simp [va_wsS]), ⟨hd.1, hd.2.1⟩, fun sig h => ?_, ok _ (by simp [va_wsS]), ok _ (by simp [va_wsS])⟩
  have h2 := hd.2.2
  rw [h] at h2
  exact (Option.some.inj h2).symm
theorem vx_callSW (X : Stand p l e R s m args below meth c T locs cells slots) (hexec : p.tables.exec = Jvm.exec) {own : String} {index : Nat} {y : MethodName} {bytes : ByteArray} {maxL : Nat} {ret : Option FieldType} {hh : List (Nat × Nat × Nat × Nat)}
    (hown : s.vm.findClass own = some m.cls) (hlink : (Cond.methodLink own index y).before args s = true) (hstat : (Cond.static y).before args s = true) (hinit : (Cond.initialized y.cls).before args s = true)
    (hcode : (Cond.codeWith y bytes maxL ret hh).before args s = true) (hy : y.cls ≠ "java/lang/invoke/MethodHandle" ∧ y.cls ≠ "java/lang/invoke/VarHandle")
    {W9 : Nat} {Pre : Pt → Array Value → Prop} {Post : Pt → Array Value → Option Value → Pt → Prop} (hK : Back l R p e below s args y 3 W9 Pre Post)
    {g : JFrame} (hg : g.method = m) (hsize : g.locals.size = c.maxLocals) {argsL rest : List Value} (hlen : ∀ sig, parseMethodDescriptor y.desc = some sig → argsL.length = sig.parameters.length)
    (hstack : g.stack = argsL.reverse ++ rest) (hW : 2 * g.monitorRoom + (rest.map fun v => v.category).sum ≤ W9) (hdg : decode c.code g.pc = .ok (.invokestatic index, 3))
    (hpre : ∀ vm₁, s.WarmedH vm₁ → Pre ⟨T.setVm vm₁, locs, cells, slots⟩ argsL.toArray) :
    ∃ (v : Option Value) (vm₁ : Vm) (B : Pt), s.WarmedH vm₁ ∧ Stand p l e R s m args below meth c B.U B.locs B.cells B.slots ∧ Post ⟨T.setVm vm₁, locs, cells, slots⟩ argsL.toArray v B ∧
      ∀ target, Steps p.tables e below (B.U.setTop { g with pc := g.pc + 3, stack := v.toList ++ rest }) target → Steps p.tables e below (T.setTop g) target := by
  obtain ⟨mk, methM, cM, hnamed, hmethM, -, -, -, -, -, -, hsigM⟩ := Cond.codeWith_spec hcode
  have hstatic : methM.isStatic = true := Cond.static_spec hnamed hmethM hstat
  obtain ⟨kP, hkP, -⟩ := className_of_methodNamed hnamed
  have hinitP : kP.init = .initialized := Cond.initialized_spec (findClass_of_methodNamed hnamed) hkP hinit
  obtain ⟨vm₁, X₁, hstep₁⟩ := X.invokestatic hexec hown hlink hnamed hmethM hstatic hkP hinitP hy (g := g) hg (argsL := argsL) (rest := rest) (hlen _ hsigM) hstack hdg
  obtain ⟨v, B, X', hpost, hsteps⟩ := hK m meth c ⟨T.setVm vm₁, locs, cells, slots⟩ { g with stack := rest } (.invokestatic index) mk argsL.toArray X₁ hg hsize hdg hW (X₁.named hnamed) (hpre vm₁ X₁.warmed)
  exact ⟨v, vm₁, B, X₁.warmed, X', hpost, fun target h => hstep₁ _ fun acts => by rw [doInvoke_state]; exact hsteps.trans h⟩
theorem vx_runSW {y : MethodName} {bytes cc : ByteArray} {maxL nL mc ms n index : Nat} {ret : Option FieldType} {hh : List (Nat × Nat × Nat × Nat)} {ws : List Cond} {rm : Room} {Pc : Array Value → State → Prop} {Qc : Array Value → State → Outcome → State → Prop} {free : Addr → Prop} {Ts : List Cond} {own : String} {As rest : List Value} {g : JFrame}
    (S : CallFix p m c cc nL s args Ts own) (hM : Met l y ws rm Pc Qc mc ms free) (cw : vx_CSW R s args own index y bytes maxL ret hh ws rm mc ms n) (hp : PreS s H Pc As)
    (hg : g.method = m) (hn : As.length = n) (hsize : g.locals.size = nL) (hstack : g.stack = As.reverse ++ rest) (hW : 2 * g.monitorRoom + (rest.map fun v => v.category).sum ≤ 8) (hdg : decode cc g.pc = .ok (.invokestatic index, 3)) (hf : cells + mc ≤ R.cells ∧ slots + ms ≤ R.slots) :
    va_Run p l e R s m args below meth c H locs cells slots mc ms g rest (Qc As.toArray) (free) := by
  obtain ⟨⟨hrc, hrs, hfr, hlo, hws, hcw⟩, hcode, hini, hy, hlen, hl, hstt⟩ := cw
  have hK : Back l R p e below s args y 3 8 (PreOf R mc ms Pc) (PostOf Qc mc ms free) := va_backW (hh := hh) (bytes := bytes) (maxL := maxL) (ret := ret) hM hp.1 hrc hrs hfr hlo hws hcw (fun a' U hW => word_at hW (Or.inl (by first | rfl | simp [Cond.onTables, Cond.keeps, Cond.steady])) hini)
  obtain ⟨hx, hb, hml, ho, -⟩ := S
  intro T hT X
  obtain ⟨v, vm₁, ⟨U', l2, c2, s2⟩, hW₁, X', ⟨g', mk, t, L, e1, e2, hq, h1, hL, h2, h3⟩, st⟩ := vx_callSW X hx (hh := hh) (bytes := bytes) (maxL := maxL) (ret := ret) ho hl hstt hini hcode hy hK hg (hsize.trans hml.symm) (argsL := As) (rest := rest) (fun sig h => hn.trans (hlen sig h)) hstack hW (by rw [hb]; exact hdg)
    (fun vm₁ hW₁ => ⟨hf.1, hf.2, hp.2 (T.setVm vm₁) hT hW₁⟩)
  dsimp only [Pt.U, Pt.locs, Pt.cells, Pt.slots] at X' e1 e2 h1 h2 h3 st
  subst h1; subst h2; subst h3
  exact ⟨v, (T.setVm vm₁).calling g' mk As.toArray, t, U', L, hT, X', hL, e1, e2, hq, st⟩
/-- not caught here, past rows that name other classes: it goes on to the caller -/
theorem vx_outP {p : Program} {l : Launch} {e : Env} {R : Room} {s : State} {m : MethodId} {args : Array Value} {below : List Frame} {meth : Method} {c : Code} {H : Heap} {locs : List Loc} {cells slots : Nat} {free : Addr → Prop} {ls : Array Slot} {rest : List Value} {Qc : Array Value → State → Outcome → State → Prop} {XC : String → State → State → Prop}
    {pc : Nat} {own E : String} {ce : Cell} {q : Addr} {mc ms : Nat} (hown : s.vm.findClass own = some m.cls) (hlocks : meth.locks = false)
    (hpass : ∀ z ∈ c.exceptionTable.toList, covers z pc = false ∨ (z.catchType ≠ 0 ∧ ∃ nm : String, (Cond.classLink own z.catchType nm).before args s = true ∧ va_Nc E nm s)) (hcell : H[q]? = some ce) (hv : ce.vm = .none) (hcl : s.vm.findClass E = some ce.cls)
    (hx : ∀ t : State, t.heap = H → s.vm.Alike t.vm → XC E s t) (hf : ∀ z ∈ locs, free z.base) (hc : cells ≤ mc) (hs : slots ≤ ms) :
    vx_W p l e R s m args below meth c H locs cells slots (vx_MQ below Qc XC args s mc ms free) (F0 m pc ls rest) q := by
  intro T hT X
  have hpl : e.platform.magicAccessors = ({} : Platform).magicAccessors := by rw [X.admits.platform]
  obtain ⟨vm', hW', X', st⟩ := X.outThrough hlocks q (g := F0 m pc ls rest) rfl rfl rfl (cell := ce) (by rw [hT]; exact hcell) (by rw [hv]; rfl)
    (by obtain ⟨k9, h9, -⟩ := Vm.findClass_spec hcl; exact ⟨k9, h9⟩) (fun z hz => by
      rcases hpass z hz with h | ⟨hz0, nm, hl1, hn1⟩
      · exact Or.inl h
      · obtain ⟨c6, hc6, hcl6⟩ := Cond.classLink_spec hown hl1 e.platform hpl
        obtain ⟨a8, b8, h1, h2, h3⟩ := hn1
        cases Option.some.inj (h1.symm.trans hcl)
        cases Option.some.inj (h2.symm.trans hc6)
        exact Or.inr ⟨hz0, _, hcl6, h3⟩)
  obtain ⟨g₀, hfr⟩ := X'.frames_eq
  have hcell9 : ((T.setVm vm').setFrames (.throwing q :: below)).heap[q]? = some ce := by
    show T.heap[q]? = some ce
    rw [hT]; exact hcell
  have hend : Ended ((T.setVm vm').setFrames (.throwing q :: below)) below (.threw q) := State.frames_setFrames _ (State.cur_lt_of_frames hfr)
  refine ⟨(T.setVm vm').setFrames (.throwing q :: below), ?_, .threw q, X'.here.running, hend, Or.inr ⟨q, rfl, E, ce, locs, hx _ hT (X'.ends _).1.alike, hcell9, hv, hcl, (X'.ends _).1, (X'.ends _).2.mono hc hs, hf⟩⟩
  rw [X.pushThrowing_eq]
  exact st
/-- a thing of a world lies in the heap -/
theorem vx_lt {D : va_G} {cl : List vw_C} {ws : va_W} {H1 : Heap} (h : va_P D cl ws H1) {k : Nat} {q : Nat × va_E} (hk : ws[k]? = some q) : q.1 < H1.size := (h k q hk).lt
end VXS
/-! ===== END ===== -/
/-! ===== BEGIN methods with a table of their own: called by a name, returning or throwing ===== -/
section VXH
/-! vx_backW, vx_callVX, vx_callSX, vx_callVW, vx_runVW, vx_runVX, vx_runSX, vx_ofWH follow the same proofs as their sisters above (Free/Laws.lean, Shelf42/LK1.lean); vx_outP calls Shelf42/NT130.lean (outThrough). -/
section
variable {l : Launch} {R : Room} {p : Program} {e : Env} {below : List Frame} {s : State} {sargs : Array Value} {y : MethodName} {len W9 : Nat}
theorem vx_backW {ws : List Cond} {rm : Room} {Pc : Array Value → State → Prop} {Qc : Array Value → State → Outcome → State → Prop} {XC : String → State → State → Prop} {mc ms : Nat} {free : Addr → Prop} {bytes : ByteArray} {maxL : Nat} {ret : Option FieldType} {hh : List (Nat × Nat × Nat × Nat)}
    (hM : vx_Met l y ws rm Pc Qc XC mc ms free) (hblind : FrameBlind Pc) (hrc : rm.cells = mc) (hrs : rm.slots = ms)
    (hframes : rm.frames + 1 ≤ R.frames) (hlocals : W9 + (maxL + 11) + rm.locals ≤ R.locals)
    (hws : ∀ w ∈ ws, ∀ a' U, s.WarmedH U.vm → w.before a' U = true) (hcode : Cond.codeWith y bytes maxL ret hh ∈ ws) (hinit : ∀ a' U, s.WarmedH U.vm → (Cond.initialized y.cls).before a' U = true) :
    vx_Back l R p e below s sargs y len W9 (PreOf R mc ms Pc) (PostOf Qc mc ms free) (vx_Post XC mc ms free) := by
  intro m meth c A g ig mk a X hg hsize hdg hW hn hp
  have h1 : (headSpec ws rm).pre.before a A.U = true := atoms_intro fun w hw => hws w hw _ _ X.warmed
  have h2 : (Cond.codeWith y bytes maxL ret hh).before a A.U = true := hws _ hcode _ _ X.warmed
  have h3 : (Cond.initialized y.cls).before a A.U = true := hinit _ _ X.warmed
  have h4 : A.cells + (headSpec ws rm).room.cells ≤ R.cells := by rw [show (headSpec ws rm).room.cells = mc from hrc]; exact hp.1
  have h5 : A.slots + (headSpec ws rm).room.slots ≤ R.slots := by rw [show (headSpec ws rm).room.slots = ms from hrs]; exact hp.2.1
  have hPc : Pc a (A.U.calling g mk a) := hblind _ _ _ _ hp.2.2
  obtain ⟨U, Ls, c0, s0⟩ := A
  dsimp only [Pt.U, Pt.locs, Pt.cells, Pt.slots] at h1 h2 h3 h4 h5 X hn hPc ⊢
  obtain ⟨m9, methY, cY, hn9, hmY, hcY, -, hlY, -⟩ := Cond.codeWith_spec h2
  cases Option.some.inj (hn9.symm.trans hn)
  obtain ⟨kY, hkY, -⟩ := className_of_methodNamed hn
  have hinitY : kY.init = .initialized := Cond.initialized_spec (findClass_of_methodNamed hn) hkY h3
  have h : At U g.method c below := by rw [hg]; exact X.here
  have hlocals9 : W9 + (maxL + 11) + (headSpec ws rm).room.locals ≤ R.locals := hlocals
  have happ : (headSpec ws rm).appliesLoose y e.platform (U.calling g mk a) = true :=
    Spec.appliesLoose_calling (g := g) h hdg hn hkY hinitY
      (X.room_calling (g := g) (R' := (headSpec ws rm).room) hsize hmY hcY hframes (by rw [hlY]; omega) h4 h5) h1
  obtain ⟨mid, hmid⟩ := h.above
  have hfr : (U.setTop g).frames = (.java g :: mid) ++ below := by rw [State.frames_setTop' g h.top, hmid]; rfl
  obtain ⟨o, s₂, hsteps, -, hend, hq⟩ := Steps.callFree hM p X.admits X.cas X.clock (acts := []) hfr happ hPc trivial
  have hq' : vx_Q Qc XC mc ms free a (U.calling g mk a) o s₂ := hq
  rw [State.frames_setTop' g h.top] at hend
  obtain ⟨g₀, hg0⟩ := Option.isSome_iff_exists.mp h.top
  obtain ⟨r, hr⟩ := State.topJava?_eq_some.mp hg0
  have hr' : (({ U with heap := s₂.heap, slotsUsed := s₂.slotsUsed } : State).setVm s₂.vm).frames = .java g₀ :: r := hr
  rcases hq' with ⟨hqc, L, hfe, hL⟩ | ⟨q, rfl, E, ce, L, hx, hce, hcv, hcl, hW₂, hsm, hL⟩
  · obtain ⟨⟨v, rfl⟩, hW₂, e2, q2, q3, q4, q5, q6⟩ := id hfe
    have e3 : s₂ = ({ (U.calling g mk a).setFrames s₂.frames with heap := s₂.heap, slotsUsed := s₂.slotsUsed } : State).setVm s₂.vm := by
      have : s₂ = ({ s₂ with vm := (U.calling g mk a).vm } : State).setVm s₂.vm := rfl
      rw [e2] at this
      exact this
    obtain ⟨c₂, i₂, len₂, hc₂, hd₂, hf₂⟩ := hend
    have hW' : U.WarmedH s₂.vm := hW₂
    have hcc : c₂ = c := by
      have h1 : s₂.code? g.method = U.code? g.method := by
        rw [State.code?_eq, State.code?_eq, hW'.alike.method?]
      exact Option.some.inj (hc₂.symm.trans (h1.trans h.code))
    subst hcc
    have hlen : len₂ = len := by rw [hdg] at hd₂; cases hd₂; rfl
    subst hlen
    have hs₂ : s₂ = (({ U with heap := s₂.heap, slotsUsed := s₂.slotsUsed } : State).setVm s₂.vm).setTop { g with pc := g.pc + len₂, stack := v.toList ++ g.stack } := by
      refine e3.trans ?_
      rw [hf₂, State.calling_eq h.top, State.setFrames_setFrames, State.setTop_of_frames _ hr', hr]
      rfl
    have hsame : U.sameButNew ({ U with heap := s₂.heap, slotsUsed := s₂.slotsUsed } : State) L mc ms := by
      refine ⟨?_, q2, q3, q4, q5, q6⟩
      obtain ⟨t, ht, -⟩ := State.frames_cons hr
      show ({ U with heap := s₂.heap, slotsUsed := s₂.slotsUsed } : State) = { U.setFrames U.frames with heap := s₂.heap, slotsUsed := s₂.slotsUsed }
      rw [State.setFrames_self ht]
    subst hg
    refine Or.inl ⟨v, ⟨(({ U with heap := s₂.heap, slotsUsed := s₂.slotsUsed } : State).setVm s₂.vm), Ls ++ L, c0 + mc, s0 + ms⟩,
      ⟨X.admits, X.cas, X.clock, X.frames, X.room, X.hears, X.method, X.code, (X.here.setHeapUsed s₂.heap s₂.slotsUsed).setVm hW'.alike, X.tail, State.WarmedH.trans X.warmed hW', X.limits, X.bytes, X.same.trans (hsame.setVm s.vm)⟩,
      ⟨g, mk, s₂, L, rfl, rfl, hqc, rfl, hL, rfl, rfl⟩, ?_⟩
    show Steps p.tables e below _ ((({ U with heap := s₂.heap, slotsUsed := s₂.slotsUsed } : State).setVm s₂.vm).setTop { g with pc := g.pc + len₂, stack := v.toList ++ g.stack })
    rw [← hs₂]
    exact hsteps
  · obtain ⟨e2, q2, q3, q4, q5, q6⟩ := id hsm
    have e3 : s₂ = ({ (U.calling g mk a).setFrames s₂.frames with heap := s₂.heap, slotsUsed := s₂.slotsUsed } : State).setVm s₂.vm := by
      have : s₂ = ({ s₂ with vm := (U.calling g mk a).vm } : State).setVm s₂.vm := rfl
      rw [e2] at this
      exact this
    have hf₂ : s₂.frames = .throwing q :: .java g :: U.frames.tail := hend
    have hW' : U.WarmedH s₂.vm := hW₂
    have hs₂ : s₂ = ((({ U with heap := s₂.heap, slotsUsed := s₂.slotsUsed } : State).setVm s₂.vm).setTop g).pushFrame (.throwing q) := by
      refine e3.trans ?_
      rw [hf₂, State.calling_eq h.top, State.setFrames_setFrames, State.pushFrame, State.frames_setTop _ hr', State.setTop_of_frames _ hr', State.setFrames_setFrames, hr]
      rfl
    have hsame : U.sameButNew ({ U with heap := s₂.heap, slotsUsed := s₂.slotsUsed } : State) L mc ms := by
      refine ⟨?_, q2, q3, q4, q5, q6⟩
      obtain ⟨t, ht, -⟩ := State.frames_cons hr
      show ({ U with heap := s₂.heap, slotsUsed := s₂.slotsUsed } : State) = { U.setFrames U.frames with heap := s₂.heap, slotsUsed := s₂.slotsUsed }
      rw [State.setFrames_self ht]
    subst hg
    refine Or.inr ⟨q, ⟨(({ U with heap := s₂.heap, slotsUsed := s₂.slotsUsed } : State).setVm s₂.vm), Ls ++ L, c0 + mc, s0 + ms⟩,
      ⟨X.admits, X.cas, X.clock, X.frames, X.room, X.hears, X.method, X.code, (X.here.setHeapUsed s₂.heap s₂.slotsUsed).setVm hW'.alike, X.tail, State.WarmedH.trans X.warmed hW', X.limits, X.bytes, X.same.trans (hsame.setVm s.vm)⟩,
      ⟨g, mk, s₂, L, E, ce, rfl, rfl, hx, hce, hcv, hcl, rfl, hL, rfl, rfl⟩, ?_⟩
    show Steps p.tables e below _ (((({ U with heap := s₂.heap, slotsUsed := s₂.slotsUsed } : State).setVm s₂.vm).setTop g).pushFrame (.throwing q))
    rw [← hs₂]
    exact hsteps
end
variable {p : Program} {l : Launch} {e : Env} {R : Room} {s : State} {m : MethodId} {args : Array Value} {below : List Frame} {meth : Method} {c : Code} {T : State} {H : Heap} {locs : List Loc} {cells slots : Nat}
theorem vx_callVX (X : Stand p l e R s m args below meth c T locs cells slots) (hexec : p.tables.exec = Jvm.exec) {own C : String} {index : Nat} {y : MethodName} {bytes : ByteArray} {maxL : Nat} {ret : Option FieldType} {hh : List (Nat × Nat × Nat × Nat)}
    (hown : s.vm.findClass own = some m.cls) (hlink : (Cond.methodLink own index y).before args s = true) (hinst : (Cond.instanceMethod y).before args s = true) (hsel : (Cond.selects C y y).before args s = true)
    (hcode : (Cond.codeWith y bytes maxL ret hh).before args s = true) (hy : y.cls ≠ "java/lang/invoke/MethodHandle" ∧ y.cls ≠ "java/lang/invoke/VarHandle")
    {W9 : Nat} {Pre : Pt → Array Value → Prop} {Post : Pt → Array Value → Option Value → Pt → Prop} {PostX : Pt → Array Value → Addr → Pt → Prop} (hK : vx_Back l R p e below s args y 3 W9 Pre Post PostX)
    {b : Addr} {cellB : Cell} (hcell : T.heap[b]? = some cellB) (hobj : cellB.vm.isStatics = false) (hcls : s.vm.findClass C = some cellB.cls)
    {g : JFrame} (hg : g.method = m) (hsize : g.locals.size = c.maxLocals) {argsL rest : List Value} (hlen : ∀ sig, parseMethodDescriptor y.desc = some sig → argsL.length = sig.parameters.length)
    (hstack : g.stack = argsL.reverse ++ .ref b :: rest) (hW : 2 * g.monitorRoom + (rest.map fun v => v.category).sum ≤ W9) (hdg : decode c.code g.pc = .ok (.invokevirtual index, 3))
    (hpre : ∀ vm₁, s.WarmedH vm₁ → Pre ⟨T.setVm vm₁, locs, cells, slots⟩ (Value.ref b :: argsL).toArray) :
    (∃ (v : Option Value) (vm₁ : Vm) (B : Pt), s.WarmedH vm₁ ∧ Stand p l e R s m args below meth c B.U B.locs B.cells B.slots ∧ Post ⟨T.setVm vm₁, locs, cells, slots⟩ (Value.ref b :: argsL).toArray v B ∧
      ∀ target, Steps p.tables e below (B.U.setTop { g with pc := g.pc + 3, stack := v.toList ++ rest }) target → Steps p.tables e below (T.setTop g) target) ∨
    (∃ (q : Addr) (vm₁ : Vm) (B : Pt), s.WarmedH vm₁ ∧ Stand p l e R s m args below meth c B.U B.locs B.cells B.slots ∧ PostX ⟨T.setVm vm₁, locs, cells, slots⟩ (Value.ref b :: argsL).toArray q B ∧
      Steps p.tables e below (T.setTop g) ((B.U.setTop { g with stack := rest }).pushFrame (.throwing q))) := by
  obtain ⟨mk, methM, hnamed, hmethM, hstM, habM⟩ := Cond.instanceMethod_spec hinst
  obtain ⟨m8, methM', cM, hn8, hmethM', -, -, -, -, -, -, hsigM⟩ := Cond.codeWith_spec hcode
  cases Option.some.inj (hn8.symm.trans hnamed)
  cases hmethM.symm.trans hmethM'
  obtain ⟨c2, r2, m2, q1, q2, q3, q4, kP, hkP, hkPi⟩ := Cond.selects_spec hsel
  cases hcls.symm.trans q1
  cases (State.methodFound?_of_named hnamed hy).symm.trans q2
  cases hnamed.symm.trans q3
  have hselP : selectMethod e.platform s.vm cellB.cls mk = .method mk := by rw [Launch.admits_selectMethod X.admits]; exact q4
  obtain ⟨vm₁, X₁, hstep₁⟩ := X.invokevirtual hexec hown hlink hnamed hmethM hstM hkP hkPi hy (a := b) (cell := cellB) hcell
    (fun z h => by rw [h] at hobj; cases hobj) hselP hmethM habM hkP hkPi (g := g) hg (argsL := argsL) (rest := rest) (hlen _ hsigM) hstack hdg
  rcases hK m meth c ⟨T.setVm vm₁, locs, cells, slots⟩ { g with stack := rest } (.invokevirtual index) mk (Value.ref b :: argsL).toArray X₁ hg hsize hdg hW (X₁.named hnamed) (hpre vm₁ X₁.warmed) with ⟨v, B, X', hpost, hsteps⟩ | ⟨q, B, X', hpost, hsteps⟩
  · exact Or.inl ⟨v, vm₁, B, X₁.warmed, X', hpost, fun target h => hstep₁ _ fun acts => by rw [doInvoke_state]; exact hsteps.trans h⟩
  · exact Or.inr ⟨q, vm₁, B, X₁.warmed, X', hpost, hstep₁ _ fun acts => by rw [doInvoke_state]; exact hsteps⟩
theorem vx_callSX (X : Stand p l e R s m args below meth c T locs cells slots) (hexec : p.tables.exec = Jvm.exec) {own : String} {index : Nat} {y : MethodName} {bytes : ByteArray} {maxL : Nat} {ret : Option FieldType} {hh : List (Nat × Nat × Nat × Nat)}
    (hown : s.vm.findClass own = some m.cls) (hlink : (Cond.methodLink own index y).before args s = true) (hstat : (Cond.static y).before args s = true) (hinit : (Cond.initialized y.cls).before args s = true)
    (hcode : (Cond.codeWith y bytes maxL ret hh).before args s = true) (hy : y.cls ≠ "java/lang/invoke/MethodHandle" ∧ y.cls ≠ "java/lang/invoke/VarHandle")
    {W9 : Nat} {Pre : Pt → Array Value → Prop} {Post : Pt → Array Value → Option Value → Pt → Prop} {PostX : Pt → Array Value → Addr → Pt → Prop} (hK : vx_Back l R p e below s args y 3 W9 Pre Post PostX)
    {g : JFrame} (hg : g.method = m) (hsize : g.locals.size = c.maxLocals) {argsL rest : List Value} (hlen : ∀ sig, parseMethodDescriptor y.desc = some sig → argsL.length = sig.parameters.length)
    (hstack : g.stack = argsL.reverse ++ rest) (hW : 2 * g.monitorRoom + (rest.map fun v => v.category).sum ≤ W9) (hdg : decode c.code g.pc = .ok (.invokestatic index, 3))
    (hpre : ∀ vm₁, s.WarmedH vm₁ → Pre ⟨T.setVm vm₁, locs, cells, slots⟩ argsL.toArray) :
    (∃ (v : Option Value) (vm₁ : Vm) (B : Pt), s.WarmedH vm₁ ∧ Stand p l e R s m args below meth c B.U B.locs B.cells B.slots ∧ Post ⟨T.setVm vm₁, locs, cells, slots⟩ argsL.toArray v B ∧
      ∀ target, Steps p.tables e below (B.U.setTop { g with pc := g.pc + 3, stack := v.toList ++ rest }) target → Steps p.tables e below (T.setTop g) target) ∨
    (∃ (q : Addr) (vm₁ : Vm) (B : Pt), s.WarmedH vm₁ ∧ Stand p l e R s m args below meth c B.U B.locs B.cells B.slots ∧ PostX ⟨T.setVm vm₁, locs, cells, slots⟩ argsL.toArray q B ∧
      Steps p.tables e below (T.setTop g) ((B.U.setTop { g with stack := rest }).pushFrame (.throwing q))) := by
  obtain ⟨mk, methM, cM, hnamed, hmethM, -, -, -, -, -, -, hsigM⟩ := Cond.codeWith_spec hcode
  have hstatic : methM.isStatic = true := Cond.static_spec hnamed hmethM hstat
  obtain ⟨kP, hkP, -⟩ := className_of_methodNamed hnamed
  have hinitP : kP.init = .initialized := Cond.initialized_spec (findClass_of_methodNamed hnamed) hkP hinit
  obtain ⟨vm₁, X₁, hstep₁⟩ := X.invokestatic hexec hown hlink hnamed hmethM hstatic hkP hinitP hy (g := g) hg (argsL := argsL) (rest := rest) (hlen _ hsigM) hstack hdg
  rcases hK m meth c ⟨T.setVm vm₁, locs, cells, slots⟩ { g with stack := rest } (.invokestatic index) mk argsL.toArray X₁ hg hsize hdg hW (X₁.named hnamed) (hpre vm₁ X₁.warmed) with ⟨v, B, X', hpost, hsteps⟩ | ⟨q, B, X', hpost, hsteps⟩
  · exact Or.inl ⟨v, vm₁, B, X₁.warmed, X', hpost, fun target h => hstep₁ _ fun acts => by rw [doInvoke_state]; exact hsteps.trans h⟩
  · exact Or.inr ⟨q, vm₁, B, X₁.warmed, X', hpost, hstep₁ _ fun acts => by rw [doInvoke_state]; exact hsteps⟩
theorem vx_callVW (X : Stand p l e R s m args below meth c T locs cells slots) (hexec : p.tables.exec = Jvm.exec) {own C : String} {index : Nat} {y : MethodName} {bytes : ByteArray} {maxL : Nat} {ret : Option FieldType} {hh : List (Nat × Nat × Nat × Nat)}
    (hown : s.vm.findClass own = some m.cls) (hlink : (Cond.methodLink own index y).before args s = true) (hinst : (Cond.instanceMethod y).before args s = true) (hsel : (Cond.selects C y y).before args s = true)
    (hcode : (Cond.codeWith y bytes maxL ret hh).before args s = true) (hy : y.cls ≠ "java/lang/invoke/MethodHandle" ∧ y.cls ≠ "java/lang/invoke/VarHandle")
    {W9 : Nat} {Pre : Pt → Array Value → Prop} {Post : Pt → Array Value → Option Value → Pt → Prop} (hK : Back l R p e below s args y 3 W9 Pre Post)
    {b : Addr} {cellB : Cell} (hcell : T.heap[b]? = some cellB) (hobj : cellB.vm.isStatics = false) (hcls : s.vm.findClass C = some cellB.cls)
    {g : JFrame} (hg : g.method = m) (hsize : g.locals.size = c.maxLocals) {argsL rest : List Value} (hlen : ∀ sig, parseMethodDescriptor y.desc = some sig → argsL.length = sig.parameters.length)
    (hstack : g.stack = argsL.reverse ++ .ref b :: rest) (hW : 2 * g.monitorRoom + (rest.map fun v => v.category).sum ≤ W9) (hdg : decode c.code g.pc = .ok (.invokevirtual index, 3))
    (hpre : ∀ vm₁, s.WarmedH vm₁ → Pre ⟨T.setVm vm₁, locs, cells, slots⟩ (Value.ref b :: argsL).toArray) :
    ∃ (v : Option Value) (vm₁ : Vm) (B : Pt), s.WarmedH vm₁ ∧ Stand p l e R s m args below meth c B.U B.locs B.cells B.slots ∧ Post ⟨T.setVm vm₁, locs, cells, slots⟩ (Value.ref b :: argsL).toArray v B ∧
      ∀ target, Steps p.tables e below (B.U.setTop { g with pc := g.pc + 3, stack := v.toList ++ rest }) target → Steps p.tables e below (T.setTop g) target := by
  obtain ⟨mk, methM, hnamed, hmethM, hstM, habM⟩ := Cond.instanceMethod_spec hinst
  obtain ⟨m8, methM', cM, hn8, hmethM', -, -, -, -, -, -, hsigM⟩ := Cond.codeWith_spec hcode
  cases Option.some.inj (hn8.symm.trans hnamed)
  cases hmethM.symm.trans hmethM'
  obtain ⟨c2, r2, m2, q1, q2, q3, q4, kP, hkP, hkPi⟩ := Cond.selects_spec hsel
  cases hcls.symm.trans q1
  cases (State.methodFound?_of_named hnamed hy).symm.trans q2
  cases hnamed.symm.trans q3
  have hselP : selectMethod e.platform s.vm cellB.cls mk = .method mk := by rw [Launch.admits_selectMethod X.admits]; exact q4
  obtain ⟨vm₁, X₁, hstep₁⟩ := X.invokevirtual hexec hown hlink hnamed hmethM hstM hkP hkPi hy (a := b) (cell := cellB) hcell
    (fun z h => by rw [h] at hobj; cases hobj) hselP hmethM habM hkP hkPi (g := g) hg (argsL := argsL) (rest := rest) (hlen _ hsigM) hstack hdg
  obtain ⟨v, B, X', hpost, hsteps⟩ := hK m meth c ⟨T.setVm vm₁, locs, cells, slots⟩ { g with stack := rest } (.invokevirtual index) mk (Value.ref b :: argsL).toArray X₁ hg hsize hdg hW (X₁.named hnamed) (hpre vm₁ X₁.warmed)
  exact ⟨v, vm₁, B, X₁.warmed, X', hpost, fun target h => hstep₁ _ fun acts => by rw [doInvoke_state]; exact hsteps.trans h⟩
abbrev vx_CVW (R : Room) (s : State) (args : Array Value) (own C : String) (index : Nat) (y : MethodName) (bytes : ByteArray) (maxL : Nat) (ret : Option FieldType) (hh : List (Nat × Nat × Nat × Nat)) (ws : List Cond) (rm : Room) (mc ms n : Nat) : Prop :=
  (rm.cells = mc ∧ rm.slots = ms ∧ rm.frames + 1 ≤ R.frames ∧ 8 + (maxL + 11) + rm.locals ≤ R.locals ∧ (∀ w ∈ ws, ∀ (a' : Array Value) (U : State), s.WarmedH U.vm → w.before a' U = true) ∧ Cond.codeWith y bytes maxL ret hh ∈ ws) ∧
  (Cond.codeWith y bytes maxL ret hh).before args s = true ∧ (Cond.initialized y.cls).before args s = true ∧ (y.cls ≠ "java/lang/invoke/MethodHandle" ∧ y.cls ≠ "java/lang/invoke/VarHandle") ∧
  (∀ sig, parseMethodDescriptor y.desc = some sig → n = sig.parameters.length) ∧ (Cond.methodLink own index y).before args s = true ∧ (Cond.instanceMethod y).before args s = true ∧ (Cond.selects C y y).before args s = true
theorem vx_cwVW {own C : String} {index maxL mc ms : Nat} {y : MethodName} {bytes : ByteArray} {ret : Option FieldType} {hh : List (Nat × Nat × Nat × Nat)} {Ts ws ws' : List Cond} {rm : Room} (n : Nat) (ht : ∀ w ∈ Ts, w.before args s = true) (hT : GoodIn Ts (wsV own index C y ws)) (hw : ws = Cond.codeWith y bytes maxL ret hh :: ws') (hrc : rm.cells = mc) (hrs : rm.slots = ms)
    (hd : y.cls = C ∧ y.cls ≠ "java/lang/invoke/MethodHandle" ∧ y.cls ≠ "java/lang/invoke/VarHandle" ∧ (parseMethodDescriptor y.desc).map (fun d => d.parameters.length) = some n) (hR : rm.frames + 1 ≤ R.frames ∧ 8 + (maxL + 11) + rm.locals ≤ R.locals) :
    vx_CVW R s args own C index y bytes maxL ret hh ws rm mc ms n := by
  obtain ⟨hC, hd⟩ := hd
  subst hC
  have ok : ∀ w ∈ wsV own index y.cls y ws, w.before args s = true := fun w h => ht w (hT w h).1
  have hG : GoodIn Ts ws := fun w h => hT w (by unfold wsV; exact List.mem_append_right _ h)
  have hc : Cond.codeWith y bytes maxL ret hh ∈ ws := by rw [hw]; exact List.mem_cons_self
  refine ⟨⟨hrc, hrs, hR.1, hR.2, pay_in ht hG, hc⟩, ht _ (hG _ hc).1, ok _ (by simp [wsV]), ⟨hd.1, hd.2.1⟩, fun sig h => ?_, ok _ (by simp [wsV]), ok _ (by simp [wsV]), ok _ (by simp [wsV])⟩
  have h2 := hd.2.2
  rw [h] at h2
  exact (Option.some.inj h2).symm
theorem vx_runVW {y : MethodName} {bytes cc : ByteArray} {maxL nL mc ms n index : Nat} {ret : Option FieldType} {hh : List (Nat × Nat × Nat × Nat)} {ws : List Cond} {rm : Room} {Pc : Array Value → State → Prop} {Qc : Array Value → State → Outcome → State → Prop} {free : Addr → Prop} {Ts : List Cond} {own C : String} {b : Addr} {As rest : List Value} {g : JFrame}
    (S : CallFix p m c cc nL s args Ts own) (hM : Met l y ws rm Pc Qc mc ms free) (cw : vx_CVW R s args own C index y bytes maxL ret hh ws rm mc ms n) (hp : PreV s H C b Pc As)
    (hg : g.method = m) (hn : As.length = n) (hsize : g.locals.size = nL) (hstack : g.stack = As.reverse ++ .ref b :: rest) (hW : 2 * g.monitorRoom + (rest.map fun v => v.category).sum ≤ 8) (hdg : decode cc g.pc = .ok (.invokevirtual index, 3)) (hf : cells + mc ≤ R.cells ∧ slots + ms ≤ R.slots) :
    va_Run p l e R s m args below meth c H locs cells slots mc ms g rest (Qc (Value.ref b :: As).toArray) free := by
  obtain ⟨⟨hrc, hrs, hfr, hlo, hws, hcw⟩, hcode, hini, hy, hlen, hl, hin, hse⟩ := cw
  have hK : Back l R p e below s args y 3 8 (PreOf R mc ms Pc) (PostOf Qc mc ms free) := va_backW (hh := hh) (bytes := bytes) (maxL := maxL) (ret := ret) hM hp.1 hrc hrs hfr hlo hws hcw (fun a' U hW => word_at hW (Or.inl (by first | rfl | simp [Cond.onTables, Cond.keeps, Cond.steady])) hini)
  obtain ⟨hx, hb, hml, ho, -⟩ := S
  obtain ⟨-, ⟨cellB, hcB, hoB, hclB⟩, hPc⟩ := hp
  intro T hT X
  obtain ⟨v, vm₁, ⟨U', l2, c2, s2⟩, hW₁, X', ⟨g', mk, t, L, e1, e2, hq, h1, hL, h2, h3⟩, st⟩ := vx_callVW X hx (C := C) (hh := hh) (bytes := bytes) (maxL := maxL) (ret := ret) ho hl hin hse hcode hy hK (by rw [hT]; exact hcB) hoB hclB hg (hsize.trans hml.symm) (argsL := As) (rest := rest) (fun sig h => hn.trans (hlen sig h)) hstack hW (by rw [hb]; exact hdg)
    (fun vm₁ hW₁ => ⟨hf.1, hf.2, hPc (T.setVm vm₁) hT hW₁⟩)
  dsimp only [Pt.U, Pt.locs, Pt.cells, Pt.slots] at X' e1 e2 h1 h2 h3 st
  subst h1; subst h2; subst h3
  exact ⟨v, (T.setVm vm₁).calling g' mk (Value.ref b :: As).toArray, t, U', L, hT, X', hL, e1, e2, hq, st⟩
section
variable {y : MethodName} {bytes cc : ByteArray} {maxL nL mc ms n index : Nat} {ret : Option FieldType} {ws : List Cond} {rm : Room} {Pc : Array Value → State → Prop} {Qc : Array Value → State → Outcome → State → Prop} {XC : String → State → State → Prop} {free : Addr → Prop} {Ts : List Cond} {own C : String} {b : Addr} {As rest : List Value} {g : JFrame}
theorem vx_runVX {hh : List (Nat × Nat × Nat × Nat)} (S : CallFix p m c cc nL s args Ts own) (hM : vx_Met l y ws rm Pc Qc XC mc ms free) (cw : vx_CVW R s args own C index y bytes maxL ret hh ws rm mc ms n) (hp : PreV s H C b Pc As)
    (hg : g.method = m) (hn : As.length = n) (hsize : g.locals.size = nL) (hstack : g.stack = As.reverse ++ .ref b :: rest) (hW : 2 * g.monitorRoom + (rest.map fun v => v.category).sum ≤ 8) (hdg : decode cc g.pc = .ok (.invokevirtual index, 3)) (hf : cells + mc ≤ R.cells ∧ slots + ms ≤ R.slots) :
    vx_Run p l e R s m args below meth c H locs cells slots mc ms g rest (Qc (Value.ref b :: As).toArray) XC free := by
  obtain ⟨⟨hrc, hrs, hfr, hlo, hws, hcw⟩, hcode, hini, hy, hlen, hl, hin, hse⟩ := cw
  have hK : vx_Back l R p e below s args y 3 8 (PreOf R mc ms Pc) (PostOf Qc mc ms free) (vx_Post XC mc ms free) := vx_backW (hh := hh) (bytes := bytes) (maxL := maxL) (ret := ret) hM hp.1 hrc hrs hfr hlo hws hcw (fun a' U hW => word_at hW (Or.inl (by first | rfl | simp [Cond.onTables, Cond.keeps, Cond.steady])) hini)
  obtain ⟨hx, hb, hml, ho, -⟩ := S
  obtain ⟨-, ⟨cellB, hcB, hoB, hclB⟩, hPc⟩ := hp
  intro T hT X
  rcases vx_callVX X hx (C := C) (hh := hh) (bytes := bytes) (maxL := maxL) (ret := ret) ho hl hin hse hcode hy hK (by rw [hT]; exact hcB) hoB hclB hg (hsize.trans hml.symm) (argsL := As) (rest := rest) (fun sig h => hn.trans (hlen sig h)) hstack hW (by rw [hb]; exact hdg)
    (fun vm₁ hW₁ => ⟨hf.1, hf.2, hPc (T.setVm vm₁) hT hW₁⟩) with ⟨v, vm₁, ⟨U', l2, c2, s2⟩, hW₁, X', ⟨g', mk, t, L, e1, e2, hq, h1, hL, h2, h3⟩, st⟩ | ⟨q, vm₁, ⟨U', l2, c2, s2⟩, hW₁, X', ⟨g', mk, t, L, E, ce, e1, e2, hq, hce, hcv, hcl, h1, hL, h2, h3⟩, st⟩
  · dsimp only [Pt.U, Pt.locs, Pt.cells, Pt.slots] at X' e1 e2 h1 h2 h3 st
    subst h1; subst h2; subst h3
    exact Or.inl ⟨v, (T.setVm vm₁).calling g' mk (Value.ref b :: As).toArray, t, U', L, hT, X', hL, e1, e2, hq, st⟩
  · dsimp only [Pt.U, Pt.locs, Pt.cells, Pt.slots] at X' e1 e2 h1 h2 h3 st hcl
    subst h1; subst h2; subst h3
    exact Or.inr ⟨q, (T.setVm vm₁).calling g' mk (Value.ref b :: As).toArray, t, U', L, E, ce, hT, X', hL, e1, e2, hq, hce, hcv, vx_cls hW₁ hcl, st⟩
theorem vx_runSX {hh : List (Nat × Nat × Nat × Nat)} (S : CallFix p m c cc nL s args Ts own) (hM : vx_Met l y ws rm Pc Qc XC mc ms free) (cw : vx_CSW R s args own index y bytes maxL ret hh ws rm mc ms n) (hp : PreS s H Pc As)
    (hg : g.method = m) (hn : As.length = n) (hsize : g.locals.size = nL) (hstack : g.stack = As.reverse ++ rest) (hW : 2 * g.monitorRoom + (rest.map fun v => v.category).sum ≤ 8) (hdg : decode cc g.pc = .ok (.invokestatic index, 3)) (hf : cells + mc ≤ R.cells ∧ slots + ms ≤ R.slots) :
    vx_Run p l e R s m args below meth c H locs cells slots mc ms g rest (Qc As.toArray) XC free := by
  obtain ⟨⟨hrc, hrs, hfr, hlo, hws, hcw⟩, hcode, hini, hy, hlen, hl, hstt⟩ := cw
  have hK : vx_Back l R p e below s args y 3 8 (PreOf R mc ms Pc) (PostOf Qc mc ms free) (vx_Post XC mc ms free) := vx_backW (hh := hh) (bytes := bytes) (maxL := maxL) (ret := ret) hM hp.1 hrc hrs hfr hlo hws hcw (fun a' U hW => word_at hW (Or.inl (by first | rfl | simp [Cond.onTables, Cond.keeps, Cond.steady])) hini)
  obtain ⟨hx, hb, hml, ho, -⟩ := S
  intro T hT X
  rcases vx_callSX X hx (hh := hh) (bytes := bytes) (maxL := maxL) (ret := ret) ho hl hstt hini hcode hy hK hg (hsize.trans hml.symm) (argsL := As) (rest := rest) (fun sig h => hn.trans (hlen sig h)) hstack hW (by rw [hb]; exact hdg)
    (fun vm₁ hW₁ => ⟨hf.1, hf.2, hp.2 (T.setVm vm₁) hT hW₁⟩) with ⟨v, vm₁, ⟨U', l2, c2, s2⟩, hW₁, X', ⟨g', mk, t, L, e1, e2, hq, h1, hL, h2, h3⟩, st⟩ | ⟨q, vm₁, ⟨U', l2, c2, s2⟩, hW₁, X', ⟨g', mk, t, L, E, ce, e1, e2, hq, hce, hcv, hcl, h1, hL, h2, h3⟩, st⟩
  · dsimp only [Pt.U, Pt.locs, Pt.cells, Pt.slots] at X' e1 e2 h1 h2 h3 st
    subst h1; subst h2; subst h3
    exact Or.inl ⟨v, (T.setVm vm₁).calling g' mk As.toArray, t, U', L, hT, X', hL, e1, e2, hq, st⟩
  · dsimp only [Pt.U, Pt.locs, Pt.cells, Pt.slots] at X' e1 e2 h1 h2 h3 st hcl
    subst h1; subst h2; subst h3
    exact Or.inr ⟨q, (T.setVm vm₁).calling g' mk As.toArray, t, U', L, E, ce, hT, X', hL, e1, e2, hq, hce, hcv, vx_cls hW₁ hcl, st⟩
end
end VXH
theorem vx_ofWH {l : Launch} {y : MethodName} {ws ws' : List Cond} {rm : Room} {Pc : Array Value → State → Prop} {Qc : Array Value → State → Outcome → State → Prop} {XC : String → State → State → Prop} {mc ms : Nat} {free : Addr → Prop} {cc : ByteArray} {maxL : Nat} {ret : Option FieldType} {hh : List (Nat × Nat × Nat × Nat)}
    (hy : plainName y.cls = true) (hw : ws = Cond.codeWith y cc maxL ret hh :: ws')
    (body : ∀ p e s m args below meth c s₁, BodyLoose p l y (headSpec ws rm) cc maxL ret e s m args below meth c s₁ → c.maxLocals = maxL → Pc args s →
      W p l e (headSpec ws rm).room s m args below meth c s.heap [] 0 0 (vx_MQ below Qc XC args s mc ms free) (entryFrame m args maxL)) : vx_Met l y ws rm Pc Qc XC mc ms free := by
  refine MetFree.of_bodyS (code := cc) (maxLocals := maxL) (ret := ret) hy ?_ ?_
  · intro args s m h hn
    obtain ⟨m9, meth, c, hn9, h1, h2, h3, h4, -, h5, h6, -⟩ := Cond.codeWith_spec (atoms_spec (ws := ws) h _ (by rw [hw]; exact List.mem_cons_self))
    cases hn.symm.trans hn9
    exact ⟨meth, c, h1, h2, h3, h4, h5, h6⟩
  · intro p e s m args below meth c s₁ B hml hP _
    have hh0 : s₁.heap = s.heap := by rw [B.state]; rfl
    obtain ⟨t, a1, o, b1, b2, b3⟩ := body p e s m args below meth c s₁ B hml hP s₁ hh0 (Stand.of_body B)
    exact ⟨t, o, a1, b1, b2, b3⟩
/-! ===== END ===== -/
end
section
-- ===== PART A: goes FIRST, ahead of the names: the tables' words, and 'selects' of the private methods out of them =====
/-- a private method of a class that the tables say can be made, by its rows of tables_1 -/
def lw_okq (q : MethodName × Nat) : Prop := (q.1.cls ≠ "java/lang/invoke/MethodHandle" ∧ q.1.cls ≠ "java/lang/invoke/VarHandle") ∧ Cond.instantiable q.1.cls q.2 ∈ tables_1 ∧ Cond.privateMethod q.1 ∈ tables_1 ∧ Cond.instanceMethod q.1 ∈ tables_1
theorem lw_p0 : lw_okq (⟨"java/lang/Throwable", "fillInStackTrace", "(I)Ljava/lang/Throwable;"⟩, 6) := ⟨⟨by decide +kernel, by decide +kernel⟩, List.mem_of_getElem? (i := 64) (by decide +kernel), List.mem_of_getElem? (i := 62) (by decide +kernel), List.mem_of_getElem? (i := 63) (by decide +kernel)⟩
theorem lw_p1 : lw_okq (⟨"BusStage", "isPassenger", "(I)Z"⟩, 2) := ⟨⟨by decide +kernel, by decide +kernel⟩, List.mem_of_getElem? (i := 168) (by decide +kernel), List.mem_of_getElem? (i := 166) (by decide +kernel), List.mem_of_getElem? (i := 167) (by decide +kernel)⟩
def lw_privs_1 : List (MethodName × Nat) := [(⟨"java/lang/Throwable", "fillInStackTrace", "(I)Ljava/lang/Throwable;"⟩, 6), (⟨"BusStage", "isPassenger", "(I)Z"⟩, 2)]
theorem lw_r1 : ∀ q ∈ lw_privs_1, lw_okq q := List.forall_mem_cons.mpr ⟨lw_p0, List.forall_mem_cons.mpr ⟨lw_p1, fun _ h => absurd h List.not_mem_nil⟩⟩
def lw_privs : List (MethodName × Nat) := lw_privs_1
def lw_tbl : List Cond := k2_sels lw_privs ++ tables_1
theorem lw_privs_ok : ∀ q ∈ lw_privs, lw_okq q := lw_r1

def RX0 : String := "BusStage$Bus"
def TX0 : u_T := fun k => match k with
  | 0 => ("BusStage$Bus", "number", "I", true)
  | 1 => ("BusStage$Bus", "at", "I", false)
  | 2 => ("BusStage$Bus", "goes", "Z", false)
  | 3 => ("BusStage$Bus", "left", "I", false)
  | 4 => ("BusStage$Bus", "seats", "I", false)
  | 5 => ("BusStage$Bus", "riders", "I", false)
  | _ => ("BusStage$Bus", "takings", "I", false)
def tyX0 : Nat → FieldType := fun k => match k with
  | 0 => .int
  | 1 => .int
  | 2 => .boolean
  | 3 => .int
  | 4 => .int
  | 5 => .int
  | _ => .int
abbrev wsX00 : List Cond := u_ws RX0 TX0 7
theorem nmX0 : ∀ a, a < 7 → ∀ b, b < 7 → a ≠ b → (TX0 a).2.1 ≠ (TX0 b).2.1 := by decide +kernel
theorem tyX0_ok : ∀ k, k < 7 → parseFieldDescriptor (TX0 k).2.2.1 = some (tyX0 k) := by decide +kernel
abbrev cX0_init : ByteArray := prog_2_method_1_code
def yX0_init : MethodName := ⟨RX0, "<init>", "(I)V"⟩
abbrev cX0_copyFrom : ByteArray := prog_2_method_2_code
def yX0_copyFrom : MethodName := ⟨RX0, "copyFrom", "(LBusStage$Bus;)V"⟩
abbrev cX0_isBunchedWith : ByteArray := prog_2_method_3_code
def yX0_isBunchedWith : MethodName := ⟨RX0, "isBunchedWith", "(LBusStage$Bus;)Z"⟩
abbrev cX0_tell : ByteArray := prog_2_method_4_code
def yX0_tell : MethodName := ⟨RX0, "tell", "(I)I"⟩
def RX1 : String := "BusStage$Line"
def TX1 : u_T := fun k => match k with
  | 0 => ("BusStage$Line", "stops", "[LBusStage$Stop;", true)
  | 1 => ("BusStage$Line", "buses", "[LBusStage$Bus;", true)
  | 2 => ("BusStage$Line", "passengers", "[LBusStage$Passenger;", true)
  | 3 => ("BusStage$Line", "busCount", "I", false)
  | 4 => ("BusStage$Line", "passengerCount", "I", false)
  | 5 => ("BusStage$Line", "minute", "I", false)
  | _ => ("BusStage$Line", "holdMinutes", "I", false)
def tyX1 : Nat → FieldType := fun k => match k with
  | 0 => .array (.object "BusStage$Stop")
  | 1 => .array (.object "BusStage$Bus")
  | 2 => .array (.object "BusStage$Passenger")
  | 3 => .int
  | 4 => .int
  | 5 => .int
  | _ => .int
abbrev wsX10 : List Cond := u_ws RX1 TX1 7
theorem nmX1 : ∀ a, a < 7 → ∀ b, b < 7 → a ≠ b → (TX1 a).2.1 ≠ (TX1 b).2.1 := by decide +kernel
theorem tyX1_ok : ∀ k, k < 7 → parseFieldDescriptor (TX1 k).2.2.1 = some (tyX1 k) := by decide +kernel
abbrev cX1_init : ByteArray := prog_3_method_1_code
def yX1_init : MethodName := ⟨RX1, "<init>", "()V"⟩
abbrev cX1_copyFrom : ByteArray := prog_3_method_2_code
def yX1_copyFrom : MethodName := ⟨RX1, "copyFrom", "(LBusStage$Line;)V"⟩
abbrev cX1_stopAt : ByteArray := prog_3_method_3_code
def yX1_stopAt : MethodName := ⟨RX1, "stopAt", "(I)LBusStage$Stop;"⟩
abbrev cX1_addBus : ByteArray := prog_3_method_4_code
def yX1_addBus : MethodName := ⟨RX1, "addBus", "(II)I"⟩
abbrev cX1_addPassenger : ByteArray := prog_3_method_5_code
def yX1_addPassenger : MethodName := ⟨RX1, "addPassenger", "(II)I"⟩
abbrev cX1_fareBetween : ByteArray := prog_3_method_6_code
def yX1_fareBetween : MethodName := ⟨RX1, "fareBetween", "(II)I"⟩
abbrev cX1_passMinutes : ByteArray := prog_3_method_7_code
def yX1_passMinutes : MethodName := ⟨RX1, "passMinutes", "(I)V"⟩
abbrev cX1_passMinute : ByteArray := prog_3_method_8_code
def yX1_passMinute : MethodName := ⟨RX1, "passMinute", "()V"⟩
abbrev cX1_driveOn : ByteArray := prog_3_method_9_code
def yX1_driveOn : MethodName := ⟨RX1, "driveOn", "(LBusStage$Bus;)V"⟩
abbrev cX1_standOn : ByteArray := prog_3_method_10_code
def yX1_standOn : MethodName := ⟨RX1, "standOn", "(LBusStage$Bus;)V"⟩
abbrev cX1_letOff : ByteArray := prog_3_method_11_code
def yX1_letOff : MethodName := ⟨RX1, "letOff", "(LBusStage$Bus;)I"⟩
abbrev cX1_letOn : ByteArray := prog_3_method_12_code
def yX1_letOn : MethodName := ⟨RX1, "letOn", "(LBusStage$Bus;)I"⟩
abbrev cX1_tellStop : ByteArray := prog_3_method_13_code
def yX1_tellStop : MethodName := ⟨RX1, "tellStop", "(II)I"⟩
abbrev cX1_tellCount : ByteArray := prog_3_method_14_code
def yX1_tellCount : MethodName := ⟨RX1, "tellCount", "(I)I"⟩
abbrev cX1_waitingAt : ByteArray := prog_3_method_15_code
def yX1_waitingAt : MethodName := ⟨RX1, "waitingAt", "(I)I"⟩
abbrev cX1_standingAt : ByteArray := prog_3_method_16_code
def yX1_standingAt : MethodName := ⟨RX1, "standingAt", "(I)I"⟩
abbrev cX1_passengersIn : ByteArray := prog_3_method_17_code
def yX1_passengersIn : MethodName := ⟨RX1, "passengersIn", "(I)I"⟩
abbrev cX1_allPaid : ByteArray := prog_3_method_18_code
def yX1_allPaid : MethodName := ⟨RX1, "allPaid", "()I"⟩
abbrev cX1_allWaited : ByteArray := prog_3_method_19_code
def yX1_allWaited : MethodName := ⟨RX1, "allWaited", "()I"⟩
abbrev cX1_bunchedPairs : ByteArray := prog_3_method_20_code
def yX1_bunchedPairs : MethodName := ⟨RX1, "bunchedPairs", "()I"⟩
def RX2 : String := "BusStage$Passenger"
def TX2 : u_T := fun k => match k with
  | 0 => ("BusStage$Passenger", "state", "I", false)
  | 1 => ("BusStage$Passenger", "at", "I", false)
  | 2 => ("BusStage$Passenger", "to", "I", false)
  | 3 => ("BusStage$Passenger", "busNumber", "I", false)
  | 4 => ("BusStage$Passenger", "paid", "I", false)
  | 5 => ("BusStage$Passenger", "waited", "I", false)
  | 6 => ("BusStage$Passenger", "lastArrival", "I", false)
  | _ => ("BusStage$Passenger", "hasTransfer", "Z", false)
def tyX2 : Nat → FieldType := fun k => match k with
  | 0 => .int
  | 1 => .int
  | 2 => .int
  | 3 => .int
  | 4 => .int
  | 5 => .int
  | 6 => .int
  | _ => .boolean
abbrev wsX20 : List Cond := u_ws RX2 TX2 8
theorem nmX2 : ∀ a, a < 8 → ∀ b, b < 8 → a ≠ b → (TX2 a).2.1 ≠ (TX2 b).2.1 := by decide +kernel
theorem tyX2_ok : ∀ k, k < 8 → parseFieldDescriptor (TX2 k).2.2.1 = some (tyX2 k) := by decide +kernel
abbrev cX2_init : ByteArray := prog_4_method_1_code
def yX2_init : MethodName := ⟨RX2, "<init>", "()V"⟩
abbrev cX2_copyFrom : ByteArray := prog_4_method_2_code
def yX2_copyFrom : MethodName := ⟨RX2, "copyFrom", "(LBusStage$Passenger;)V"⟩
abbrev cX2_waitsAt : ByteArray := prog_4_method_3_code
def yX2_waitsAt : MethodName := ⟨RX2, "waitsAt", "(I)Z"⟩
abbrev cX2_leavesAt : ByteArray := prog_4_method_4_code
def yX2_leavesAt : MethodName := ⟨RX2, "leavesAt", "(ILBusStage$Bus;)Z"⟩
abbrev cX2_waitAgain : ByteArray := prog_4_method_5_code
def yX2_waitAgain : MethodName := ⟨RX2, "waitAgain", "(II)V"⟩
abbrev cX2_getOn : ByteArray := prog_4_method_6_code
def yX2_getOn : MethodName := ⟨RX2, "getOn", "(LBusStage$Bus;I)I"⟩
abbrev cX2_getOff : ByteArray := prog_4_method_7_code
def yX2_getOff : MethodName := ⟨RX2, "getOff", "(I)V"⟩
abbrev cX2_tell : ByteArray := prog_4_method_8_code
def yX2_tell : MethodName := ⟨RX2, "tell", "(I)I"⟩
def RX3 : String := "BusStage$Stop"
def TX3 : u_T := fun k => match k with
  | 0 => ("BusStage$Stop", "minutes", "I", false)
  | 1 => ("BusStage$Stop", "stage", "I", false)
  | _ => ("BusStage$Stop", "lastLeft", "I", false)
def tyX3 : Nat → FieldType := fun k => match k with
  | 0 => .int
  | 1 => .int
  | _ => .int
abbrev wsX30 : List Cond := u_ws RX3 TX3 3
theorem nmX3 : ∀ a, a < 3 → ∀ b, b < 3 → a ≠ b → (TX3 a).2.1 ≠ (TX3 b).2.1 := by decide +kernel
theorem tyX3_ok : ∀ k, k < 3 → parseFieldDescriptor (TX3 k).2.2.1 = some (tyX3 k) := by decide +kernel
abbrev cX3_init : ByteArray := prog_5_method_1_code
def yX3_init : MethodName := ⟨RX3, "<init>", "(I)V"⟩
abbrev cX3_copyFrom : ByteArray := prog_5_method_2_code
def yX3_copyFrom : MethodName := ⟨RX3, "copyFrom", "(LBusStage$Stop;)V"⟩
abbrev cX3_letsLeave : ByteArray := prog_5_method_3_code
def yX3_letsLeave : MethodName := ⟨RX3, "letsLeave", "(II)Z"⟩
def RX4 : String := "BusStage"
def TX4 : u_T := fun k => match k with
  | 0 => ("BusStage", "line", "LBusStage$Line;", true)
  | _ => ("BusStage", "trial", "LBusStage$Line;", true)
def tyX4 : Nat → FieldType := fun k => match k with
  | 0 => .object "BusStage$Line"
  | _ => .object "BusStage$Line"
abbrev wsX40 : List Cond := u_ws RX4 TX4 2
theorem nmX4 : ∀ a, a < 2 → ∀ b, b < 2 → a ≠ b → (TX4 a).2.1 ≠ (TX4 b).2.1 := by decide +kernel
theorem tyX4_ok : ∀ k, k < 2 → parseFieldDescriptor (TX4 k).2.2.1 = some (tyX4 k) := by decide +kernel
abbrev cX4_init : ByteArray := prog_1_method_1_code
def yX4_init : MethodName := ⟨RX4, "<init>", "()V"⟩
abbrev cX4_set : ByteArray := prog_1_method_2_code
def yX4_set : MethodName := ⟨RX4, "set", "(III)I"⟩
abbrev cX4_hold : ByteArray := prog_1_method_3_code
def yX4_hold : MethodName := ⟨RX4, "hold", "(I)I"⟩
abbrev cX4_start : ByteArray := prog_1_method_4_code
def yX4_start : MethodName := ⟨RX4, "start", "(II)I"⟩
abbrev cX4_queue : ByteArray := prog_1_method_5_code
def yX4_queue : MethodName := ⟨RX4, "queue", "(II)I"⟩
abbrev cX4_change : ByteArray := prog_1_method_6_code
def yX4_change : MethodName := ⟨RX4, "change", "(II)Z"⟩
abbrev cX4_fare : ByteArray := prog_1_method_7_code
def yX4_fare : MethodName := ⟨RX4, "fare", "(II)I"⟩
abbrev cX4_bus : ByteArray := prog_1_method_8_code
def yX4_bus : MethodName := ⟨RX4, "bus", "(II)I"⟩
abbrev cX4_passenger : ByteArray := prog_1_method_9_code
def yX4_passenger : MethodName := ⟨RX4, "passenger", "(II)I"⟩
abbrev cX4_stop : ByteArray := prog_1_method_10_code
def yX4_stop : MethodName := ⟨RX4, "stop", "(II)I"⟩
abbrev cX4_count : ByteArray := prog_1_method_11_code
def yX4_count : MethodName := ⟨RX4, "count", "(I)I"⟩
abbrev cX4_go : ByteArray := prog_1_method_12_code
def yX4_go : MethodName := ⟨RX4, "go", "(I)I"⟩
abbrev cX4_arrives : ByteArray := prog_1_method_13_code
def yX4_arrives : MethodName := ⟨RX4, "arrives", "(I)I"⟩
abbrev cX4_foresee : ByteArray := prog_1_method_14_code
def yX4_foresee : MethodName := ⟨RX4, "foresee", "(II)I"⟩
abbrev cX4_advise : ByteArray := prog_1_method_15_code
def yX4_advise : MethodName := ⟨RX4, "advise", "(I)I"⟩
abbrev cX4_digest : ByteArray := prog_1_method_17_code
def yX4_digest : MethodName := ⟨RX4, "digest", "()J"⟩
abbrev cX4_isWithin : ByteArray := prog_1_method_18_code
def yX4_isWithin : MethodName := ⟨RX4, "isWithin", "(III)Z"⟩
abbrev cX4_isStop : ByteArray := prog_1_method_19_code
def yX4_isStop : MethodName := ⟨RX4, "isStop", "(I)Z"⟩
abbrev cX4_isPassenger : ByteArray := prog_1_method_20_code
def yX4_isPassenger : MethodName := ⟨RX4, "isPassenger", "(I)Z"⟩
def RX5 : String := "BusStageModel$State"
def TX5 : u_T := fun k => match k with
  | _ => ("", "", "", false)
def tyX5 : Nat → FieldType := fun k => match k with
  | _ => .int
abbrev wsX50 : List Cond := u_ws RX5 TX5 0
theorem nmX5 : ∀ a, a < 0 → ∀ b, b < 0 → a ≠ b → (TX5 a).2.1 ≠ (TX5 b).2.1 := by decide +kernel
theorem tyX5_ok : ∀ k, k < 0 → parseFieldDescriptor (TX5 k).2.2.1 = some (tyX5 k) := by decide +kernel
def RX6 : String := "BusStageModel"
def TX6 : u_T := fun k => match k with
  | _ => ("", "", "", false)
def tyX6 : Nat → FieldType := fun k => match k with
  | _ => .int
abbrev wsX60 : List Cond := u_ws RX6 TX6 0
theorem nmX6 : ∀ a, a < 0 → ∀ b, b < 0 → a ≠ b → (TX6 a).2.1 ≠ (TX6 b).2.1 := by decide +kernel
theorem tyX6_ok : ∀ k, k < 0 → parseFieldDescriptor (TX6 k).2.2.1 = some (tyX6 k) := by decide +kernel
def RJ9 : String := "java/lang/Math"
def TJ9 : u_T := fun k => match k with
  | _ => ("", "", "", false)
def tyJ9 : Nat → FieldType := fun k => match k with
  | _ => .int
abbrev wsJ90 : List Cond := u_ws RJ9 TJ9 0
theorem nmJ9 : ∀ a, a < 0 → ∀ b, b < 0 → a ≠ b → (TJ9 a).2.1 ≠ (TJ9 b).2.1 := by decide +kernel
theorem tyJ9_ok : ∀ k, k < 0 → parseFieldDescriptor (TJ9 k).2.2.1 = some (tyJ9 k) := by decide +kernel
abbrev cJ9_max_7cf53 : ByteArray := prog_13_method_65_code
def yJ9_max_7cf53 : MethodName := ⟨RJ9, "max", "(II)I"⟩
def RJ0 : String := "java/lang/String"
def TJ0 : u_T := fun k => match k with
  | _ => ("", "", "", false)
def tyJ0 : Nat → FieldType := fun k => match k with
  | _ => .int
abbrev wsJ00 : List Cond := u_ws RJ0 TJ0 0
theorem nmJ0 : ∀ a, a < 0 → ∀ b, b < 0 → a ≠ b → (TJ0 a).2.1 ≠ (TJ0 b).2.1 := by decide +kernel
theorem tyJ0_ok : ∀ k, k < 0 → parseFieldDescriptor (TJ0 k).2.2.1 = some (tyJ0 k) := by decide +kernel
def RL : String := "BusStageLaw"
abbrev cL_below : ByteArray := method_2_code
def yL_below : MethodName := ⟨RL, "below", "(II)I"⟩
abbrev cL_cell : ByteArray := method_3_code
def yL_cell : MethodName := ⟨RL, "cell", "([II)I"⟩
abbrev cL_line : ByteArray := method_4_code
def yL_line : MethodName := ⟨RL, "line", "([I)LBusStage;"⟩
abbrev cL_change : ByteArray := method_5_code
def yL_change : MethodName := ⟨RL, "change", "(LBusStage;II)I"⟩
abbrev cL_law : ByteArray := code
def yL_law : MethodName := ⟨RL, "law", "([I)Z"⟩
abbrev vwCl : List vw_C := [(RX0, TX0, 7), (RX1, TX1, 7), (RX2, TX2, 8), (RX3, TX3, 3), (RX4, TX4, 2)]
/-- the good words of the tables -/
def lw_good : List Cond := lw_tbl.filter goodWord
theorem gw {w : Cond} (i : Nat) (h : lw_tbl[i]? = some w) (hg : goodWord w = true) : w ∈ lw_good := List.mem_filter.mpr ⟨List.mem_of_getElem? h, hg⟩
theorem lw_good_tbl {w : Cond} (h : w ∈ lw_good) : w ∈ lw_tbl := (List.mem_filter.mp h).1
theorem lw_good_word {w : Cond} (h : w ∈ lw_good) : goodWord w = true := (List.mem_filter.mp h).2
/-- words that the tables alone decide, good or not -/
def lw_ext : Cond → Bool
  | .fieldLinkNest .. => true
  | .methodLinkNest .. => true
  | .declares _ => true
  | .castable .. => true
  | .privateMethod _ => true
  | _ => false
end
section
set_option maxRecDepth 20000 in
theorem q_0 : (Jvm.Cond.initialized "BusStageLaw") ∈ lw_good := gw 2 (by decide +kernel) rfl
set_option maxRecDepth 20000 in
theorem q_1 : (Jvm.Cond.initialized "BusStage") ∈ lw_good := gw 3 (by decide +kernel) rfl
set_option maxRecDepth 20000 in
theorem q_2 : (Jvm.Cond.initialized "BusStage$Line") ∈ lw_good := gw 4 (by decide +kernel) rfl
set_option maxRecDepth 20000 in
theorem q_3 : (Jvm.Cond.initialized "BusStage$Stop") ∈ lw_good := gw 5 (by decide +kernel) rfl
set_option maxRecDepth 20000 in
theorem q_4 : (Jvm.Cond.initialized "BusStage$Bus") ∈ lw_good := gw 6 (by decide +kernel) rfl
set_option maxRecDepth 20000 in
theorem q_5 : (Jvm.Cond.initialized "BusStage$Passenger") ∈ lw_good := gw 7 (by decide +kernel) rfl
set_option maxRecDepth 20000 in
theorem q_6 : (Jvm.Cond.initialized "java/lang/Throwable") ∈ lw_good := gw 8 (by decide +kernel) rfl
set_option maxRecDepth 20000 in
theorem q_7 : (Jvm.Cond.initialized "java/lang/Exception") ∈ lw_good := gw 9 (by decide +kernel) rfl
set_option maxRecDepth 20000 in
theorem q_8 : (Jvm.Cond.initialized "java/lang/RuntimeException") ∈ lw_good := gw 10 (by decide +kernel) rfl
set_option maxRecDepth 20000 in
theorem q_9 : (Jvm.Cond.initialized "java/lang/IndexOutOfBoundsException") ∈ lw_good := gw 11 (by decide +kernel) rfl
set_option maxRecDepth 20000 in
theorem q_10 : (Jvm.Cond.initialized "java/lang/IllegalArgumentException") ∈ lw_good := gw 12 (by decide +kernel) rfl
set_option maxRecDepth 20000 in
theorem q_11 : (Jvm.Cond.initialized "java/lang/IllegalStateException") ∈ lw_good := gw 13 (by decide +kernel) rfl
set_option maxRecDepth 20000 in
theorem q_12 : (Jvm.Cond.initialized "java/lang/Math") ∈ lw_good := gw 14 (by decide +kernel) rfl
set_option maxRecDepth 20000 in
theorem q_13 : (Jvm.Cond.methodLink "BusStageLaw" (22 : Nat) ({ cls := "BusStage", name := "set", desc := "(III)I" } : Jvm.MethodName)) ∈ lw_good := gw 15 (by decide +kernel) rfl
set_option maxRecDepth 20000 in
theorem q_14 : (Jvm.Cond.instanceMethod ({ cls := "BusStage", name := "set", desc := "(III)I" } : Jvm.MethodName)) ∈ lw_good := gw 16 (by decide +kernel) rfl
set_option maxRecDepth 20000 in
theorem q_15 : (Jvm.Cond.selects "BusStage" ({ cls := "BusStage", name := "set", desc := "(III)I" } : Jvm.MethodName) ({ cls := "BusStage", name := "set", desc := "(III)I" } : Jvm.MethodName)) ∈ lw_good := gw 17 (by decide +kernel) rfl
set_option maxRecDepth 20000 in
theorem q_16 : (Jvm.Cond.code ({ cls := "BusStage", name := "set", desc := "(III)I" } : Jvm.MethodName) prog_1_method_2_code (6 : Nat) (Option.some Jvm.ClassFile.FieldType.int)) ∈ lw_good := gw 18 (by decide +kernel) rfl
set_option maxRecDepth 20000 in
theorem q_17 : (Jvm.Cond.methodLink "BusStage" (19 : Nat) ({ cls := "BusStage", name := "isStop", desc := "(I)Z" } : Jvm.MethodName)) ∈ lw_good := gw 19 (by decide +kernel) rfl
set_option maxRecDepth 20000 in
theorem q_18 : (Jvm.Cond.static ({ cls := "BusStage", name := "isStop", desc := "(I)Z" } : Jvm.MethodName)) ∈ lw_good := gw 20 (by decide +kernel) rfl
set_option maxRecDepth 20000 in
theorem q_19 : (Jvm.Cond.code ({ cls := "BusStage", name := "isStop", desc := "(I)Z" } : Jvm.MethodName) prog_1_method_19_code (1 : Nat) (Option.some Jvm.ClassFile.FieldType.boolean)) ∈ lw_good := gw 21 (by decide +kernel) rfl
set_option maxRecDepth 20000 in
theorem q_20 : (Jvm.Cond.methodLink "BusStage" (30 : Nat) ({ cls := "BusStage", name := "isWithin", desc := "(III)Z" } : Jvm.MethodName)) ∈ lw_good := gw 22 (by decide +kernel) rfl
set_option maxRecDepth 20000 in
theorem q_21 : (Jvm.Cond.static ({ cls := "BusStage", name := "isWithin", desc := "(III)Z" } : Jvm.MethodName)) ∈ lw_good := gw 23 (by decide +kernel) rfl
set_option maxRecDepth 20000 in
theorem q_22 : (Jvm.Cond.code ({ cls := "BusStage", name := "isWithin", desc := "(III)Z" } : Jvm.MethodName) prog_1_method_18_code (3 : Nat) (Option.some Jvm.ClassFile.FieldType.boolean)) ∈ lw_good := gw 24 (by decide +kernel) rfl
set_option maxRecDepth 20000 in
theorem q_23 : (Jvm.Cond.classLink "BusStage" (23 : Nat) "java/lang/IndexOutOfBoundsException") ∈ lw_good := gw 25 (by decide +kernel) rfl
set_option maxRecDepth 20000 in
theorem q_24 : (Jvm.Cond.instantiable "java/lang/IndexOutOfBoundsException" (6 : Nat)) ∈ lw_good := gw 26 (by decide +kernel) rfl
set_option maxRecDepth 20000 in
theorem q_25 : (Jvm.Cond.castable "java/lang/IndexOutOfBoundsException" "java/lang/IndexOutOfBoundsException") ∈ lw_tbl := List.mem_of_getElem? (i := 27) (by decide +kernel)
set_option maxRecDepth 20000 in
theorem q_32 : (Jvm.Cond.selects "java/lang/IndexOutOfBoundsException" ({ cls := "java/lang/Throwable", name := "fillInStackTrace", desc := "(I)Ljava/lang/Throwable;" } : Jvm.MethodName) ({ cls := "java/lang/Throwable", name := "fillInStackTrace", desc := "(I)Ljava/lang/Throwable;" } : Jvm.MethodName)) ∈ lw_good := gw 34 (by decide +kernel) rfl
set_option maxRecDepth 20000 in
theorem q_33 : (Jvm.Cond.selects "java/lang/IndexOutOfBoundsException" ({ cls := "java/lang/Throwable", name := "fillInStackTrace", desc := "()Ljava/lang/Throwable;" } : Jvm.MethodName) ({ cls := "java/lang/Throwable", name := "fillInStackTrace", desc := "()Ljava/lang/Throwable;" } : Jvm.MethodName)) ∈ lw_good := gw 35 (by decide +kernel) rfl
set_option maxRecDepth 20000 in
theorem q_44 : (Jvm.Cond.fieldLink "java/lang/Throwable" (198 : Nat) "java/lang/Throwable" "backtrace" "Ljava/lang/Object;") ∈ lw_good := gw 46 (by decide +kernel) rfl
set_option maxRecDepth 20000 in
theorem q_46 : (Jvm.Cond.instanceMethod ({ cls := "java/lang/Throwable", name := "<init>", desc := "()V" } : Jvm.MethodName)) ∈ lw_good := gw 48 (by decide +kernel) rfl
set_option maxRecDepth 20000 in
theorem q_47 : (Jvm.Cond.code ({ cls := "java/lang/Throwable", name := "<init>", desc := "()V" } : Jvm.MethodName) prog_16_method_1_code (1 : Nat) (Option.none : Option Jvm.ClassFile.FieldType)) ∈ lw_good := gw 49 (by decide +kernel) rfl
set_option maxRecDepth 20000 in
theorem q_48 : (Jvm.Cond.methodLink "java/lang/Throwable" (1 : Nat) ({ cls := "java/lang/Object", name := "<init>", desc := "()V" } : Jvm.MethodName)) ∈ lw_good := gw 50 (by decide +kernel) rfl
set_option maxRecDepth 20000 in
theorem q_49 : (Jvm.Cond.instanceMethod ({ cls := "java/lang/Object", name := "<init>", desc := "()V" } : Jvm.MethodName)) ∈ lw_good := gw 51 (by decide +kernel) rfl
set_option maxRecDepth 20000 in
theorem q_50 : (Jvm.Cond.code ({ cls := "java/lang/Object", name := "<init>", desc := "()V" } : Jvm.MethodName) object_method_1_code (1 : Nat) (Option.none : Option Jvm.ClassFile.FieldType)) ∈ lw_good := gw 52 (by decide +kernel) rfl
set_option maxRecDepth 20000 in
theorem q_51 : (Jvm.Cond.fieldLink "java/lang/Throwable" (13 : Nat) "java/lang/Throwable" "UNASSIGNED_STACK" "[Ljava/lang/StackTraceElement;") ∈ lw_good := gw 53 (by decide +kernel) rfl
set_option maxRecDepth 20000 in
theorem q_53 : (Jvm.Cond.fieldLink "java/lang/Throwable" (20 : Nat) "java/lang/Throwable" "SUPPRESSED_SENTINEL" "Ljava/util/List;") ∈ lw_good := gw 55 (by decide +kernel) rfl
set_option maxRecDepth 20000 in
theorem q_55 : (Jvm.Cond.methodLink "java/lang/Throwable" (27 : Nat) ({ cls := "java/lang/Throwable", name := "fillInStackTrace", desc := "()Ljava/lang/Throwable;" } : Jvm.MethodName)) ∈ lw_good := gw 57 (by decide +kernel) rfl
set_option maxRecDepth 20000 in
theorem q_56 : (Jvm.Cond.instanceMethod ({ cls := "java/lang/Throwable", name := "fillInStackTrace", desc := "()Ljava/lang/Throwable;" } : Jvm.MethodName)) ∈ lw_good := gw 58 (by decide +kernel) rfl
set_option maxRecDepth 20000 in
theorem q_58 : (Jvm.Cond.selects "java/lang/IllegalArgumentException" ({ cls := "java/lang/Throwable", name := "fillInStackTrace", desc := "()Ljava/lang/Throwable;" } : Jvm.MethodName) ({ cls := "java/lang/Throwable", name := "fillInStackTrace", desc := "()Ljava/lang/Throwable;" } : Jvm.MethodName)) ∈ lw_good := gw 60 (by decide +kernel) rfl
set_option maxRecDepth 20000 in
theorem q_59 : (Jvm.Cond.selects "java/lang/IllegalStateException" ({ cls := "java/lang/Throwable", name := "fillInStackTrace", desc := "()Ljava/lang/Throwable;" } : Jvm.MethodName) ({ cls := "java/lang/Throwable", name := "fillInStackTrace", desc := "()Ljava/lang/Throwable;" } : Jvm.MethodName)) ∈ lw_good := gw 61 (by decide +kernel) rfl
set_option maxRecDepth 20000 in
theorem q_61 : (Jvm.Cond.methodLink "java/lang/Throwable" (202 : Nat) ({ cls := "java/lang/Throwable", name := "fillInStackTrace", desc := "(I)Ljava/lang/Throwable;" } : Jvm.MethodName)) ∈ lw_good := gw 63 (by decide +kernel) rfl
set_option maxRecDepth 20000 in
theorem q_63 : (Jvm.Cond.instanceMethod ({ cls := "java/lang/Throwable", name := "fillInStackTrace", desc := "(I)Ljava/lang/Throwable;" } : Jvm.MethodName)) ∈ lw_good := gw 65 (by decide +kernel) rfl
set_option maxRecDepth 20000 in
theorem q_64 : (Jvm.Cond.instantiable "java/lang/Throwable" (6 : Nat)) ∈ lw_good := gw 66 (by decide +kernel) rfl
set_option maxRecDepth 20000 in
theorem q_65 : (Jvm.Cond.native ({ cls := "java/lang/Throwable", name := "fillInStackTrace", desc := "(I)Ljava/lang/Throwable;" } : Jvm.MethodName)) ∈ lw_good := gw 67 (by decide +kernel) rfl
set_option maxRecDepth 20000 in
theorem q_67 : (Jvm.Cond.methodLink "BusStage" (27 : Nat) ({ cls := "java/lang/IndexOutOfBoundsException", name := "<init>", desc := "(Ljava/lang/String;)V" } : Jvm.MethodName)) ∈ lw_good := gw 69 (by decide +kernel) rfl
set_option maxRecDepth 20000 in
theorem q_68 : (Jvm.Cond.instanceMethod ({ cls := "java/lang/IndexOutOfBoundsException", name := "<init>", desc := "(Ljava/lang/String;)V" } : Jvm.MethodName)) ∈ lw_good := gw 70 (by decide +kernel) rfl
set_option maxRecDepth 20000 in
theorem q_69 : (Jvm.Cond.code ({ cls := "java/lang/IndexOutOfBoundsException", name := "<init>", desc := "(Ljava/lang/String;)V" } : Jvm.MethodName) prog_12_method_2_code (2 : Nat) (Option.none : Option Jvm.ClassFile.FieldType)) ∈ lw_good := gw 71 (by decide +kernel) rfl
set_option maxRecDepth 20000 in
theorem q_70 : (Jvm.Cond.methodLink "java/lang/IndexOutOfBoundsException" (7 : Nat) ({ cls := "java/lang/RuntimeException", name := "<init>", desc := "(Ljava/lang/String;)V" } : Jvm.MethodName)) ∈ lw_good := gw 72 (by decide +kernel) rfl
set_option maxRecDepth 20000 in
theorem q_71 : (Jvm.Cond.instanceMethod ({ cls := "java/lang/RuntimeException", name := "<init>", desc := "(Ljava/lang/String;)V" } : Jvm.MethodName)) ∈ lw_good := gw 73 (by decide +kernel) rfl
set_option maxRecDepth 20000 in
theorem q_72 : (Jvm.Cond.code ({ cls := "java/lang/RuntimeException", name := "<init>", desc := "(Ljava/lang/String;)V" } : Jvm.MethodName) prog_14_method_2_code (2 : Nat) (Option.none : Option Jvm.ClassFile.FieldType)) ∈ lw_good := gw 74 (by decide +kernel) rfl
set_option maxRecDepth 20000 in
theorem q_73 : (Jvm.Cond.methodLink "java/lang/RuntimeException" (7 : Nat) ({ cls := "java/lang/Exception", name := "<init>", desc := "(Ljava/lang/String;)V" } : Jvm.MethodName)) ∈ lw_good := gw 75 (by decide +kernel) rfl
set_option maxRecDepth 20000 in
theorem q_74 : (Jvm.Cond.instanceMethod ({ cls := "java/lang/Exception", name := "<init>", desc := "(Ljava/lang/String;)V" } : Jvm.MethodName)) ∈ lw_good := gw 76 (by decide +kernel) rfl
set_option maxRecDepth 20000 in
theorem q_75 : (Jvm.Cond.code ({ cls := "java/lang/Exception", name := "<init>", desc := "(Ljava/lang/String;)V" } : Jvm.MethodName) prog_9_method_2_code (2 : Nat) (Option.none : Option Jvm.ClassFile.FieldType)) ∈ lw_good := gw 77 (by decide +kernel) rfl
set_option maxRecDepth 20000 in
theorem q_76 : (Jvm.Cond.methodLink "java/lang/Exception" (7 : Nat) ({ cls := "java/lang/Throwable", name := "<init>", desc := "(Ljava/lang/String;)V" } : Jvm.MethodName)) ∈ lw_good := gw 78 (by decide +kernel) rfl
set_option maxRecDepth 20000 in
theorem q_77 : (Jvm.Cond.instanceMethod ({ cls := "java/lang/Throwable", name := "<init>", desc := "(Ljava/lang/String;)V" } : Jvm.MethodName)) ∈ lw_good := gw 79 (by decide +kernel) rfl
set_option maxRecDepth 20000 in
theorem q_78 : (Jvm.Cond.code ({ cls := "java/lang/Throwable", name := "<init>", desc := "(Ljava/lang/String;)V" } : Jvm.MethodName) prog_16_method_2_code (2 : Nat) (Option.none : Option Jvm.ClassFile.FieldType)) ∈ lw_good := gw 80 (by decide +kernel) rfl
set_option maxRecDepth 20000 in
theorem q_79 : (Jvm.Cond.fieldLink "java/lang/Throwable" (198 : Nat) "java/lang/Throwable" "backtrace" "Ljava/lang/Object;") ∈ lw_good := gw 81 (by decide +kernel) rfl
set_option maxRecDepth 20000 in
theorem q_80 : (Jvm.Cond.fieldLink "java/lang/Throwable" (31 : Nat) "java/lang/Throwable" "detailMessage" "Ljava/lang/String;") ∈ lw_good := gw 82 (by decide +kernel) rfl
set_option maxRecDepth 20000 in
theorem q_81 : (Jvm.Cond.fieldLink "java/lang/Throwable" (7 : Nat) "java/lang/Throwable" "cause" "Ljava/lang/Throwable;") ∈ lw_good := gw 83 (by decide +kernel) rfl
set_option maxRecDepth 20000 in
theorem q_82 : (Jvm.Cond.fieldLink "java/lang/Throwable" (17 : Nat) "java/lang/Throwable" "stackTrace" "[Ljava/lang/StackTraceElement;") ∈ lw_good := gw 84 (by decide +kernel) rfl
set_option maxRecDepth 20000 in
theorem q_83 : (Jvm.Cond.fieldLink "java/lang/Throwable" (24 : Nat) "java/lang/Throwable" "suppressedExceptions" "Ljava/util/List;") ∈ lw_good := gw 85 (by decide +kernel) rfl
set_option maxRecDepth 20000 in
theorem q_92 : (Jvm.Cond.arrayClass Jvm.ClassFile.FieldType.byte) ∈ lw_good := gw 94 (by decide +kernel) rfl
set_option maxRecDepth 20000 in
theorem q_93 : (Jvm.Cond.classLink "BusStage" (34 : Nat) "java/lang/IllegalArgumentException") ∈ lw_good := gw 95 (by decide +kernel) rfl
set_option maxRecDepth 20000 in
theorem q_94 : (Jvm.Cond.instantiable "java/lang/IllegalArgumentException" (6 : Nat)) ∈ lw_good := gw 96 (by decide +kernel) rfl
set_option maxRecDepth 20000 in
theorem q_95 : (Jvm.Cond.castable "java/lang/IllegalArgumentException" "java/lang/IllegalArgumentException") ∈ lw_tbl := List.mem_of_getElem? (i := 97) (by decide +kernel)
set_option maxRecDepth 20000 in
theorem q_96 : (Jvm.Cond.selects "java/lang/IllegalArgumentException" ({ cls := "java/lang/Throwable", name := "fillInStackTrace", desc := "(I)Ljava/lang/Throwable;" } : Jvm.MethodName) ({ cls := "java/lang/Throwable", name := "fillInStackTrace", desc := "(I)Ljava/lang/Throwable;" } : Jvm.MethodName)) ∈ lw_good := gw 98 (by decide +kernel) rfl
set_option maxRecDepth 20000 in
theorem q_103 : (Jvm.Cond.methodLink "BusStage" (38 : Nat) ({ cls := "java/lang/IllegalArgumentException", name := "<init>", desc := "(Ljava/lang/String;)V" } : Jvm.MethodName)) ∈ lw_good := gw 105 (by decide +kernel) rfl
set_option maxRecDepth 20000 in
theorem q_104 : (Jvm.Cond.instanceMethod ({ cls := "java/lang/IllegalArgumentException", name := "<init>", desc := "(Ljava/lang/String;)V" } : Jvm.MethodName)) ∈ lw_good := gw 106 (by decide +kernel) rfl
set_option maxRecDepth 20000 in
theorem q_105 : (Jvm.Cond.code ({ cls := "java/lang/IllegalArgumentException", name := "<init>", desc := "(Ljava/lang/String;)V" } : Jvm.MethodName) prog_10_method_2_code (2 : Nat) (Option.none : Option Jvm.ClassFile.FieldType)) ∈ lw_good := gw 107 (by decide +kernel) rfl
set_option maxRecDepth 20000 in
theorem q_106 : (Jvm.Cond.methodLink "java/lang/IllegalArgumentException" (7 : Nat) ({ cls := "java/lang/RuntimeException", name := "<init>", desc := "(Ljava/lang/String;)V" } : Jvm.MethodName)) ∈ lw_good := gw 108 (by decide +kernel) rfl
set_option maxRecDepth 20000 in
theorem q_109 : (Jvm.Cond.methodLink "BusStage" (39 : Nat) ({ cls := "BusStage$Line", name := "stopAt", desc := "(I)LBusStage$Stop;" } : Jvm.MethodName)) ∈ lw_good := gw 111 (by decide +kernel) rfl
set_option maxRecDepth 20000 in
theorem q_110 : (Jvm.Cond.instanceMethod ({ cls := "BusStage$Line", name := "stopAt", desc := "(I)LBusStage$Stop;" } : Jvm.MethodName)) ∈ lw_good := gw 112 (by decide +kernel) rfl
set_option maxRecDepth 20000 in
theorem q_111 : (Jvm.Cond.selects "BusStage$Line" ({ cls := "BusStage$Line", name := "stopAt", desc := "(I)LBusStage$Stop;" } : Jvm.MethodName) ({ cls := "BusStage$Line", name := "stopAt", desc := "(I)LBusStage$Stop;" } : Jvm.MethodName)) ∈ lw_good := gw 113 (by decide +kernel) rfl
set_option maxRecDepth 20000 in
theorem q_112 : (Jvm.Cond.code ({ cls := "BusStage$Line", name := "stopAt", desc := "(I)LBusStage$Stop;" } : Jvm.MethodName) prog_3_method_3_code (3 : Nat) (Option.some (Jvm.ClassFile.FieldType.object "BusStage$Stop"))) ∈ lw_good := gw 114 (by decide +kernel) rfl
set_option maxRecDepth 20000 in
theorem q_113 : (Jvm.Cond.methodLink "BusStageLaw" (26 : Nat) ({ cls := "BusStage", name := "hold", desc := "(I)I" } : Jvm.MethodName)) ∈ lw_good := gw 115 (by decide +kernel) rfl
set_option maxRecDepth 20000 in
theorem q_114 : (Jvm.Cond.instanceMethod ({ cls := "BusStage", name := "hold", desc := "(I)I" } : Jvm.MethodName)) ∈ lw_good := gw 116 (by decide +kernel) rfl
set_option maxRecDepth 20000 in
theorem q_115 : (Jvm.Cond.selects "BusStage" ({ cls := "BusStage", name := "hold", desc := "(I)I" } : Jvm.MethodName) ({ cls := "BusStage", name := "hold", desc := "(I)I" } : Jvm.MethodName)) ∈ lw_good := gw 117 (by decide +kernel) rfl
set_option maxRecDepth 20000 in
theorem q_116 : (Jvm.Cond.code ({ cls := "BusStage", name := "hold", desc := "(I)I" } : Jvm.MethodName) prog_1_method_3_code (3 : Nat) (Option.some Jvm.ClassFile.FieldType.int)) ∈ lw_good := gw 118 (by decide +kernel) rfl
set_option maxRecDepth 20000 in
theorem q_118 : (Jvm.Cond.methodLink "BusStageLaw" (36 : Nat) ({ cls := "BusStage", name := "queue", desc := "(II)I" } : Jvm.MethodName)) ∈ lw_good := gw 120 (by decide +kernel) rfl
set_option maxRecDepth 20000 in
theorem q_119 : (Jvm.Cond.instanceMethod ({ cls := "BusStage", name := "queue", desc := "(II)I" } : Jvm.MethodName)) ∈ lw_good := gw 121 (by decide +kernel) rfl
set_option maxRecDepth 20000 in
theorem q_120 : (Jvm.Cond.selects "BusStage" ({ cls := "BusStage", name := "queue", desc := "(II)I" } : Jvm.MethodName) ({ cls := "BusStage", name := "queue", desc := "(II)I" } : Jvm.MethodName)) ∈ lw_good := gw 122 (by decide +kernel) rfl
set_option maxRecDepth 20000 in
theorem q_121 : (Jvm.Cond.code ({ cls := "BusStage", name := "queue", desc := "(II)I" } : Jvm.MethodName) prog_1_method_5_code (3 : Nat) (Option.some Jvm.ClassFile.FieldType.int)) ∈ lw_good := gw 123 (by decide +kernel) rfl
set_option maxRecDepth 20000 in
theorem q_123 : (Jvm.Cond.classLink "BusStage" (62 : Nat) "java/lang/IllegalStateException") ∈ lw_good := gw 125 (by decide +kernel) rfl
set_option maxRecDepth 20000 in
theorem q_124 : (Jvm.Cond.instantiable "java/lang/IllegalStateException" (6 : Nat)) ∈ lw_good := gw 126 (by decide +kernel) rfl
set_option maxRecDepth 20000 in
theorem q_125 : (Jvm.Cond.castable "java/lang/IllegalStateException" "java/lang/IllegalStateException") ∈ lw_tbl := List.mem_of_getElem? (i := 127) (by decide +kernel)
set_option maxRecDepth 20000 in
theorem q_126 : (Jvm.Cond.selects "java/lang/IllegalStateException" ({ cls := "java/lang/Throwable", name := "fillInStackTrace", desc := "(I)Ljava/lang/Throwable;" } : Jvm.MethodName) ({ cls := "java/lang/Throwable", name := "fillInStackTrace", desc := "(I)Ljava/lang/Throwable;" } : Jvm.MethodName)) ∈ lw_good := gw 128 (by decide +kernel) rfl
set_option maxRecDepth 20000 in
theorem q_133 : (Jvm.Cond.methodLink "BusStage" (66 : Nat) ({ cls := "java/lang/IllegalStateException", name := "<init>", desc := "(Ljava/lang/String;)V" } : Jvm.MethodName)) ∈ lw_good := gw 135 (by decide +kernel) rfl
set_option maxRecDepth 20000 in
theorem q_134 : (Jvm.Cond.instanceMethod ({ cls := "java/lang/IllegalStateException", name := "<init>", desc := "(Ljava/lang/String;)V" } : Jvm.MethodName)) ∈ lw_good := gw 136 (by decide +kernel) rfl
set_option maxRecDepth 20000 in
theorem q_135 : (Jvm.Cond.code ({ cls := "java/lang/IllegalStateException", name := "<init>", desc := "(Ljava/lang/String;)V" } : Jvm.MethodName) prog_11_method_2_code (2 : Nat) (Option.none : Option Jvm.ClassFile.FieldType)) ∈ lw_good := gw 137 (by decide +kernel) rfl
set_option maxRecDepth 20000 in
theorem q_136 : (Jvm.Cond.methodLink "java/lang/IllegalStateException" (7 : Nat) ({ cls := "java/lang/RuntimeException", name := "<init>", desc := "(Ljava/lang/String;)V" } : Jvm.MethodName)) ∈ lw_good := gw 138 (by decide +kernel) rfl
set_option maxRecDepth 20000 in
theorem q_139 : (Jvm.Cond.methodLink "BusStage" (78 : Nat) ({ cls := "BusStage$Line", name := "addPassenger", desc := "(II)I" } : Jvm.MethodName)) ∈ lw_good := gw 141 (by decide +kernel) rfl
set_option maxRecDepth 20000 in
theorem q_140 : (Jvm.Cond.instanceMethod ({ cls := "BusStage$Line", name := "addPassenger", desc := "(II)I" } : Jvm.MethodName)) ∈ lw_good := gw 142 (by decide +kernel) rfl
set_option maxRecDepth 20000 in
theorem q_141 : (Jvm.Cond.selects "BusStage$Line" ({ cls := "BusStage$Line", name := "addPassenger", desc := "(II)I" } : Jvm.MethodName) ({ cls := "BusStage$Line", name := "addPassenger", desc := "(II)I" } : Jvm.MethodName)) ∈ lw_good := gw 143 (by decide +kernel) rfl
set_option maxRecDepth 20000 in
theorem q_142 : (Jvm.Cond.code ({ cls := "BusStage$Line", name := "addPassenger", desc := "(II)I" } : Jvm.MethodName) prog_3_method_5_code (4 : Nat) (Option.some Jvm.ClassFile.FieldType.int)) ∈ lw_good := gw 144 (by decide +kernel) rfl
set_option maxRecDepth 20000 in
theorem q_143 : (Jvm.Cond.methodLink "BusStageLaw" (84 : Nat) ({ cls := "BusStage", name := "fare", desc := "(II)I" } : Jvm.MethodName)) ∈ lw_good := gw 145 (by decide +kernel) rfl
set_option maxRecDepth 20000 in
theorem q_144 : (Jvm.Cond.instanceMethod ({ cls := "BusStage", name := "fare", desc := "(II)I" } : Jvm.MethodName)) ∈ lw_good := gw 146 (by decide +kernel) rfl
set_option maxRecDepth 20000 in
theorem q_145 : (Jvm.Cond.selects "BusStage" ({ cls := "BusStage", name := "fare", desc := "(II)I" } : Jvm.MethodName) ({ cls := "BusStage", name := "fare", desc := "(II)I" } : Jvm.MethodName)) ∈ lw_good := gw 147 (by decide +kernel) rfl
set_option maxRecDepth 20000 in
theorem q_146 : (Jvm.Cond.code ({ cls := "BusStage", name := "fare", desc := "(II)I" } : Jvm.MethodName) prog_1_method_7_code (3 : Nat) (Option.some Jvm.ClassFile.FieldType.int)) ∈ lw_good := gw 148 (by decide +kernel) rfl
set_option maxRecDepth 20000 in
theorem q_147 : (Jvm.Cond.methodLink "BusStage" (111 : Nat) ({ cls := "BusStage$Line", name := "fareBetween", desc := "(II)I" } : Jvm.MethodName)) ∈ lw_good := gw 149 (by decide +kernel) rfl
set_option maxRecDepth 20000 in
theorem q_148 : (Jvm.Cond.instanceMethod ({ cls := "BusStage$Line", name := "fareBetween", desc := "(II)I" } : Jvm.MethodName)) ∈ lw_good := gw 150 (by decide +kernel) rfl
set_option maxRecDepth 20000 in
theorem q_149 : (Jvm.Cond.selects "BusStage$Line" ({ cls := "BusStage$Line", name := "fareBetween", desc := "(II)I" } : Jvm.MethodName) ({ cls := "BusStage$Line", name := "fareBetween", desc := "(II)I" } : Jvm.MethodName)) ∈ lw_good := gw 151 (by decide +kernel) rfl
set_option maxRecDepth 20000 in
theorem q_150 : (Jvm.Cond.code ({ cls := "BusStage$Line", name := "fareBetween", desc := "(II)I" } : Jvm.MethodName) prog_3_method_6_code (6 : Nat) (Option.some Jvm.ClassFile.FieldType.int)) ∈ lw_good := gw 152 (by decide +kernel) rfl
set_option maxRecDepth 20000 in
theorem q_151 : (Jvm.Cond.methodLink "BusStage$Line" (73 : Nat) ({ cls := "BusStage$Line", name := "stopAt", desc := "(I)LBusStage$Stop;" } : Jvm.MethodName)) ∈ lw_good := gw 153 (by decide +kernel) rfl
set_option maxRecDepth 20000 in
theorem q_152 : (Jvm.Cond.methodLink "BusStageLaw" (60 : Nat) ({ cls := "BusStage", name := "bus", desc := "(II)I" } : Jvm.MethodName)) ∈ lw_good := gw 154 (by decide +kernel) rfl
set_option maxRecDepth 20000 in
theorem q_153 : (Jvm.Cond.instanceMethod ({ cls := "BusStage", name := "bus", desc := "(II)I" } : Jvm.MethodName)) ∈ lw_good := gw 155 (by decide +kernel) rfl
set_option maxRecDepth 20000 in
theorem q_154 : (Jvm.Cond.selects "BusStage" ({ cls := "BusStage", name := "bus", desc := "(II)I" } : Jvm.MethodName) ({ cls := "BusStage", name := "bus", desc := "(II)I" } : Jvm.MethodName)) ∈ lw_good := gw 156 (by decide +kernel) rfl
set_option maxRecDepth 20000 in
theorem q_155 : (Jvm.Cond.code ({ cls := "BusStage", name := "bus", desc := "(II)I" } : Jvm.MethodName) prog_1_method_8_code (3 : Nat) (Option.some Jvm.ClassFile.FieldType.int)) ∈ lw_good := gw 157 (by decide +kernel) rfl
set_option maxRecDepth 20000 in
theorem q_157 : (Jvm.Cond.methodLink "BusStage" (120 : Nat) ({ cls := "BusStage$Bus", name := "tell", desc := "(I)I" } : Jvm.MethodName)) ∈ lw_good := gw 159 (by decide +kernel) rfl
set_option maxRecDepth 20000 in
theorem q_158 : (Jvm.Cond.instanceMethod ({ cls := "BusStage$Bus", name := "tell", desc := "(I)I" } : Jvm.MethodName)) ∈ lw_good := gw 160 (by decide +kernel) rfl
set_option maxRecDepth 20000 in
theorem q_159 : (Jvm.Cond.selects "BusStage$Bus" ({ cls := "BusStage$Bus", name := "tell", desc := "(I)I" } : Jvm.MethodName) ({ cls := "BusStage$Bus", name := "tell", desc := "(I)I" } : Jvm.MethodName)) ∈ lw_good := gw 161 (by decide +kernel) rfl
set_option maxRecDepth 20000 in
theorem q_160 : (Jvm.Cond.code ({ cls := "BusStage$Bus", name := "tell", desc := "(I)I" } : Jvm.MethodName) prog_2_method_4_code (2 : Nat) (Option.some Jvm.ClassFile.FieldType.int)) ∈ lw_good := gw 162 (by decide +kernel) rfl
set_option maxRecDepth 20000 in
theorem q_161 : (Jvm.Cond.methodLink "BusStageLaw" (55 : Nat) ({ cls := "BusStage", name := "passenger", desc := "(II)I" } : Jvm.MethodName)) ∈ lw_good := gw 163 (by decide +kernel) rfl
set_option maxRecDepth 20000 in
theorem q_162 : (Jvm.Cond.instanceMethod ({ cls := "BusStage", name := "passenger", desc := "(II)I" } : Jvm.MethodName)) ∈ lw_good := gw 164 (by decide +kernel) rfl
set_option maxRecDepth 20000 in
theorem q_163 : (Jvm.Cond.selects "BusStage" ({ cls := "BusStage", name := "passenger", desc := "(II)I" } : Jvm.MethodName) ({ cls := "BusStage", name := "passenger", desc := "(II)I" } : Jvm.MethodName)) ∈ lw_good := gw 165 (by decide +kernel) rfl
set_option maxRecDepth 20000 in
theorem q_164 : (Jvm.Cond.code ({ cls := "BusStage", name := "passenger", desc := "(II)I" } : Jvm.MethodName) prog_1_method_9_code (3 : Nat) (Option.some Jvm.ClassFile.FieldType.int)) ∈ lw_good := gw 166 (by decide +kernel) rfl
set_option maxRecDepth 20000 in
theorem q_165 : (Jvm.Cond.methodLink "BusStage" (81 : Nat) ({ cls := "BusStage", name := "isPassenger", desc := "(I)Z" } : Jvm.MethodName)) ∈ lw_good := gw 167 (by decide +kernel) rfl
set_option maxRecDepth 20000 in
theorem q_167 : (Jvm.Cond.instanceMethod ({ cls := "BusStage", name := "isPassenger", desc := "(I)Z" } : Jvm.MethodName)) ∈ lw_good := gw 169 (by decide +kernel) rfl
set_option maxRecDepth 20000 in
theorem q_168 : (Jvm.Cond.instantiable "BusStage" (2 : Nat)) ∈ lw_good := gw 170 (by decide +kernel) rfl
set_option maxRecDepth 20000 in
theorem q_169 : (Jvm.Cond.code ({ cls := "BusStage", name := "isPassenger", desc := "(I)Z" } : Jvm.MethodName) prog_1_method_20_code (2 : Nat) (Option.some Jvm.ClassFile.FieldType.boolean)) ∈ lw_good := gw 171 (by decide +kernel) rfl
set_option maxRecDepth 20000 in
theorem q_171 : (Jvm.Cond.methodLink "BusStage" (128 : Nat) ({ cls := "BusStage$Passenger", name := "tell", desc := "(I)I" } : Jvm.MethodName)) ∈ lw_good := gw 173 (by decide +kernel) rfl
set_option maxRecDepth 20000 in
theorem q_172 : (Jvm.Cond.instanceMethod ({ cls := "BusStage$Passenger", name := "tell", desc := "(I)I" } : Jvm.MethodName)) ∈ lw_good := gw 174 (by decide +kernel) rfl
set_option maxRecDepth 20000 in
theorem q_173 : (Jvm.Cond.selects "BusStage$Passenger" ({ cls := "BusStage$Passenger", name := "tell", desc := "(I)I" } : Jvm.MethodName) ({ cls := "BusStage$Passenger", name := "tell", desc := "(I)I" } : Jvm.MethodName)) ∈ lw_good := gw 175 (by decide +kernel) rfl
set_option maxRecDepth 20000 in
theorem q_174 : (Jvm.Cond.code ({ cls := "BusStage$Passenger", name := "tell", desc := "(I)I" } : Jvm.MethodName) prog_4_method_8_code (2 : Nat) (Option.some Jvm.ClassFile.FieldType.int)) ∈ lw_good := gw 176 (by decide +kernel) rfl
set_option maxRecDepth 20000 in
theorem q_175 : (Jvm.Cond.methodLink "BusStageLaw" (63 : Nat) ({ cls := "BusStage", name := "stop", desc := "(II)I" } : Jvm.MethodName)) ∈ lw_good := gw 177 (by decide +kernel) rfl
set_option maxRecDepth 20000 in
theorem q_176 : (Jvm.Cond.instanceMethod ({ cls := "BusStage", name := "stop", desc := "(II)I" } : Jvm.MethodName)) ∈ lw_good := gw 178 (by decide +kernel) rfl
set_option maxRecDepth 20000 in
theorem q_177 : (Jvm.Cond.selects "BusStage" ({ cls := "BusStage", name := "stop", desc := "(II)I" } : Jvm.MethodName) ({ cls := "BusStage", name := "stop", desc := "(II)I" } : Jvm.MethodName)) ∈ lw_good := gw 179 (by decide +kernel) rfl
set_option maxRecDepth 20000 in
theorem q_178 : (Jvm.Cond.code ({ cls := "BusStage", name := "stop", desc := "(II)I" } : Jvm.MethodName) prog_1_method_10_code (3 : Nat) (Option.some Jvm.ClassFile.FieldType.int)) ∈ lw_good := gw 180 (by decide +kernel) rfl
set_option maxRecDepth 20000 in
theorem q_180 : (Jvm.Cond.methodLink "BusStage" (131 : Nat) ({ cls := "BusStage$Line", name := "tellStop", desc := "(II)I" } : Jvm.MethodName)) ∈ lw_good := gw 182 (by decide +kernel) rfl
set_option maxRecDepth 20000 in
theorem q_181 : (Jvm.Cond.instanceMethod ({ cls := "BusStage$Line", name := "tellStop", desc := "(II)I" } : Jvm.MethodName)) ∈ lw_good := gw 183 (by decide +kernel) rfl
set_option maxRecDepth 20000 in
theorem q_182 : (Jvm.Cond.selects "BusStage$Line" ({ cls := "BusStage$Line", name := "tellStop", desc := "(II)I" } : Jvm.MethodName) ({ cls := "BusStage$Line", name := "tellStop", desc := "(II)I" } : Jvm.MethodName)) ∈ lw_good := gw 184 (by decide +kernel) rfl
set_option maxRecDepth 20000 in
theorem q_183 : (Jvm.Cond.code ({ cls := "BusStage$Line", name := "tellStop", desc := "(II)I" } : Jvm.MethodName) prog_3_method_13_code (3 : Nat) (Option.some Jvm.ClassFile.FieldType.int)) ∈ lw_good := gw 185 (by decide +kernel) rfl
set_option maxRecDepth 20000 in
theorem q_184 : (Jvm.Cond.methodLink "BusStage$Line" (141 : Nat) ({ cls := "BusStage$Line", name := "waitingAt", desc := "(I)I" } : Jvm.MethodName)) ∈ lw_good := gw 186 (by decide +kernel) rfl
set_option maxRecDepth 20000 in
theorem q_185 : (Jvm.Cond.instanceMethod ({ cls := "BusStage$Line", name := "waitingAt", desc := "(I)I" } : Jvm.MethodName)) ∈ lw_good := gw 187 (by decide +kernel) rfl
set_option maxRecDepth 20000 in
theorem q_186 : (Jvm.Cond.selects "BusStage$Line" ({ cls := "BusStage$Line", name := "waitingAt", desc := "(I)I" } : Jvm.MethodName) ({ cls := "BusStage$Line", name := "waitingAt", desc := "(I)I" } : Jvm.MethodName)) ∈ lw_good := gw 188 (by decide +kernel) rfl
set_option maxRecDepth 20000 in
theorem q_187 : (Jvm.Cond.code ({ cls := "BusStage$Line", name := "waitingAt", desc := "(I)I" } : Jvm.MethodName) prog_3_method_15_code (4 : Nat) (Option.some Jvm.ClassFile.FieldType.int)) ∈ lw_good := gw 189 (by decide +kernel) rfl
set_option maxRecDepth 20000 in
theorem q_188 : (Jvm.Cond.methodLink "BusStage$Line" (126 : Nat) ({ cls := "BusStage$Passenger", name := "waitsAt", desc := "(I)Z" } : Jvm.MethodName)) ∈ lw_good := gw 190 (by decide +kernel) rfl
set_option maxRecDepth 20000 in
theorem q_189 : (Jvm.Cond.instanceMethod ({ cls := "BusStage$Passenger", name := "waitsAt", desc := "(I)Z" } : Jvm.MethodName)) ∈ lw_good := gw 191 (by decide +kernel) rfl
set_option maxRecDepth 20000 in
theorem q_190 : (Jvm.Cond.selects "BusStage$Passenger" ({ cls := "BusStage$Passenger", name := "waitsAt", desc := "(I)Z" } : Jvm.MethodName) ({ cls := "BusStage$Passenger", name := "waitsAt", desc := "(I)Z" } : Jvm.MethodName)) ∈ lw_good := gw 192 (by decide +kernel) rfl
set_option maxRecDepth 20000 in
theorem q_191 : (Jvm.Cond.code ({ cls := "BusStage$Passenger", name := "waitsAt", desc := "(I)Z" } : Jvm.MethodName) prog_4_method_3_code (2 : Nat) (Option.some Jvm.ClassFile.FieldType.boolean)) ∈ lw_good := gw 193 (by decide +kernel) rfl
set_option maxRecDepth 20000 in
theorem q_192 : (Jvm.Cond.methodLink "BusStage$Line" (145 : Nat) ({ cls := "BusStage$Line", name := "standingAt", desc := "(I)I" } : Jvm.MethodName)) ∈ lw_good := gw 194 (by decide +kernel) rfl
set_option maxRecDepth 20000 in
theorem q_193 : (Jvm.Cond.instanceMethod ({ cls := "BusStage$Line", name := "standingAt", desc := "(I)I" } : Jvm.MethodName)) ∈ lw_good := gw 195 (by decide +kernel) rfl
set_option maxRecDepth 20000 in
theorem q_194 : (Jvm.Cond.selects "BusStage$Line" ({ cls := "BusStage$Line", name := "standingAt", desc := "(I)I" } : Jvm.MethodName) ({ cls := "BusStage$Line", name := "standingAt", desc := "(I)I" } : Jvm.MethodName)) ∈ lw_good := gw 196 (by decide +kernel) rfl
set_option maxRecDepth 20000 in
theorem q_195 : (Jvm.Cond.code ({ cls := "BusStage$Line", name := "standingAt", desc := "(I)I" } : Jvm.MethodName) prog_3_method_16_code (4 : Nat) (Option.some Jvm.ClassFile.FieldType.int)) ∈ lw_good := gw 197 (by decide +kernel) rfl
set_option maxRecDepth 20000 in
theorem q_196 : (Jvm.Cond.methodLink "BusStageLaw" (52 : Nat) ({ cls := "BusStage", name := "count", desc := "(I)I" } : Jvm.MethodName)) ∈ lw_good := gw 198 (by decide +kernel) rfl
set_option maxRecDepth 20000 in
theorem q_197 : (Jvm.Cond.instanceMethod ({ cls := "BusStage", name := "count", desc := "(I)I" } : Jvm.MethodName)) ∈ lw_good := gw 199 (by decide +kernel) rfl
set_option maxRecDepth 20000 in
theorem q_198 : (Jvm.Cond.selects "BusStage" ({ cls := "BusStage", name := "count", desc := "(I)I" } : Jvm.MethodName) ({ cls := "BusStage", name := "count", desc := "(I)I" } : Jvm.MethodName)) ∈ lw_good := gw 200 (by decide +kernel) rfl
set_option maxRecDepth 20000 in
theorem q_199 : (Jvm.Cond.code ({ cls := "BusStage", name := "count", desc := "(I)I" } : Jvm.MethodName) prog_1_method_11_code (2 : Nat) (Option.some Jvm.ClassFile.FieldType.int)) ∈ lw_good := gw 201 (by decide +kernel) rfl
set_option maxRecDepth 20000 in
theorem q_201 : (Jvm.Cond.methodLink "BusStage" (136 : Nat) ({ cls := "BusStage$Line", name := "tellCount", desc := "(I)I" } : Jvm.MethodName)) ∈ lw_good := gw 203 (by decide +kernel) rfl
set_option maxRecDepth 20000 in
theorem q_202 : (Jvm.Cond.instanceMethod ({ cls := "BusStage$Line", name := "tellCount", desc := "(I)I" } : Jvm.MethodName)) ∈ lw_good := gw 204 (by decide +kernel) rfl
set_option maxRecDepth 20000 in
theorem q_203 : (Jvm.Cond.selects "BusStage$Line" ({ cls := "BusStage$Line", name := "tellCount", desc := "(I)I" } : Jvm.MethodName) ({ cls := "BusStage$Line", name := "tellCount", desc := "(I)I" } : Jvm.MethodName)) ∈ lw_good := gw 205 (by decide +kernel) rfl
set_option maxRecDepth 20000 in
theorem q_204 : (Jvm.Cond.code ({ cls := "BusStage$Line", name := "tellCount", desc := "(I)I" } : Jvm.MethodName) prog_3_method_14_code (2 : Nat) (Option.some Jvm.ClassFile.FieldType.int)) ∈ lw_good := gw 206 (by decide +kernel) rfl
set_option maxRecDepth 20000 in
theorem q_205 : (Jvm.Cond.methodLink "BusStage$Line" (148 : Nat) ({ cls := "BusStage$Line", name := "passengersIn", desc := "(I)I" } : Jvm.MethodName)) ∈ lw_good := gw 207 (by decide +kernel) rfl
set_option maxRecDepth 20000 in
theorem q_206 : (Jvm.Cond.instanceMethod ({ cls := "BusStage$Line", name := "passengersIn", desc := "(I)I" } : Jvm.MethodName)) ∈ lw_good := gw 208 (by decide +kernel) rfl
set_option maxRecDepth 20000 in
theorem q_207 : (Jvm.Cond.selects "BusStage$Line" ({ cls := "BusStage$Line", name := "passengersIn", desc := "(I)I" } : Jvm.MethodName) ({ cls := "BusStage$Line", name := "passengersIn", desc := "(I)I" } : Jvm.MethodName)) ∈ lw_good := gw 209 (by decide +kernel) rfl
set_option maxRecDepth 20000 in
theorem q_208 : (Jvm.Cond.code ({ cls := "BusStage$Line", name := "passengersIn", desc := "(I)I" } : Jvm.MethodName) prog_3_method_17_code (4 : Nat) (Option.some Jvm.ClassFile.FieldType.int)) ∈ lw_good := gw 210 (by decide +kernel) rfl
set_option maxRecDepth 20000 in
theorem q_209 : (Jvm.Cond.methodLink "BusStage$Line" (151 : Nat) ({ cls := "BusStage$Line", name := "allPaid", desc := "()I" } : Jvm.MethodName)) ∈ lw_good := gw 211 (by decide +kernel) rfl
set_option maxRecDepth 20000 in
theorem q_210 : (Jvm.Cond.instanceMethod ({ cls := "BusStage$Line", name := "allPaid", desc := "()I" } : Jvm.MethodName)) ∈ lw_good := gw 212 (by decide +kernel) rfl
set_option maxRecDepth 20000 in
theorem q_211 : (Jvm.Cond.selects "BusStage$Line" ({ cls := "BusStage$Line", name := "allPaid", desc := "()I" } : Jvm.MethodName) ({ cls := "BusStage$Line", name := "allPaid", desc := "()I" } : Jvm.MethodName)) ∈ lw_good := gw 213 (by decide +kernel) rfl
set_option maxRecDepth 20000 in
theorem q_212 : (Jvm.Cond.code ({ cls := "BusStage$Line", name := "allPaid", desc := "()I" } : Jvm.MethodName) prog_3_method_18_code (3 : Nat) (Option.some Jvm.ClassFile.FieldType.int)) ∈ lw_good := gw 214 (by decide +kernel) rfl
set_option maxRecDepth 20000 in
theorem q_213 : (Jvm.Cond.methodLink "BusStage$Line" (155 : Nat) ({ cls := "BusStage$Line", name := "allWaited", desc := "()I" } : Jvm.MethodName)) ∈ lw_good := gw 215 (by decide +kernel) rfl
set_option maxRecDepth 20000 in
theorem q_214 : (Jvm.Cond.instanceMethod ({ cls := "BusStage$Line", name := "allWaited", desc := "()I" } : Jvm.MethodName)) ∈ lw_good := gw 216 (by decide +kernel) rfl
set_option maxRecDepth 20000 in
theorem q_215 : (Jvm.Cond.selects "BusStage$Line" ({ cls := "BusStage$Line", name := "allWaited", desc := "()I" } : Jvm.MethodName) ({ cls := "BusStage$Line", name := "allWaited", desc := "()I" } : Jvm.MethodName)) ∈ lw_good := gw 217 (by decide +kernel) rfl
set_option maxRecDepth 20000 in
theorem q_216 : (Jvm.Cond.code ({ cls := "BusStage$Line", name := "allWaited", desc := "()I" } : Jvm.MethodName) prog_3_method_19_code (3 : Nat) (Option.some Jvm.ClassFile.FieldType.int)) ∈ lw_good := gw 218 (by decide +kernel) rfl
set_option maxRecDepth 20000 in
theorem q_217 : (Jvm.Cond.methodLink "BusStage$Line" (158 : Nat) ({ cls := "BusStage$Line", name := "bunchedPairs", desc := "()I" } : Jvm.MethodName)) ∈ lw_good := gw 219 (by decide +kernel) rfl
set_option maxRecDepth 20000 in
theorem q_218 : (Jvm.Cond.instanceMethod ({ cls := "BusStage$Line", name := "bunchedPairs", desc := "()I" } : Jvm.MethodName)) ∈ lw_good := gw 220 (by decide +kernel) rfl
set_option maxRecDepth 20000 in
theorem q_219 : (Jvm.Cond.selects "BusStage$Line" ({ cls := "BusStage$Line", name := "bunchedPairs", desc := "()I" } : Jvm.MethodName) ({ cls := "BusStage$Line", name := "bunchedPairs", desc := "()I" } : Jvm.MethodName)) ∈ lw_good := gw 221 (by decide +kernel) rfl
set_option maxRecDepth 20000 in
theorem q_220 : (Jvm.Cond.code ({ cls := "BusStage$Line", name := "bunchedPairs", desc := "()I" } : Jvm.MethodName) prog_3_method_20_code (4 : Nat) (Option.some Jvm.ClassFile.FieldType.int)) ∈ lw_good := gw 222 (by decide +kernel) rfl
set_option maxRecDepth 20000 in
theorem q_221 : (Jvm.Cond.methodLink "BusStage$Line" (164 : Nat) ({ cls := "BusStage$Bus", name := "isBunchedWith", desc := "(LBusStage$Bus;)Z" } : Jvm.MethodName)) ∈ lw_good := gw 223 (by decide +kernel) rfl
set_option maxRecDepth 20000 in
theorem q_222 : (Jvm.Cond.instanceMethod ({ cls := "BusStage$Bus", name := "isBunchedWith", desc := "(LBusStage$Bus;)Z" } : Jvm.MethodName)) ∈ lw_good := gw 224 (by decide +kernel) rfl
set_option maxRecDepth 20000 in
theorem q_223 : (Jvm.Cond.selects "BusStage$Bus" ({ cls := "BusStage$Bus", name := "isBunchedWith", desc := "(LBusStage$Bus;)Z" } : Jvm.MethodName) ({ cls := "BusStage$Bus", name := "isBunchedWith", desc := "(LBusStage$Bus;)Z" } : Jvm.MethodName)) ∈ lw_good := gw 225 (by decide +kernel) rfl
set_option maxRecDepth 20000 in
theorem q_224 : (Jvm.Cond.code ({ cls := "BusStage$Bus", name := "isBunchedWith", desc := "(LBusStage$Bus;)Z" } : Jvm.MethodName) prog_2_method_3_code (2 : Nat) (Option.some Jvm.ClassFile.FieldType.boolean)) ∈ lw_good := gw 226 (by decide +kernel) rfl
set_option maxRecDepth 20000 in
theorem q_225 : (Jvm.Cond.methodLink "BusStageLaw" (33 : Nat) ({ cls := "BusStage", name := "go", desc := "(I)I" } : Jvm.MethodName)) ∈ lw_good := gw 227 (by decide +kernel) rfl
set_option maxRecDepth 20000 in
theorem q_226 : (Jvm.Cond.instanceMethod ({ cls := "BusStage", name := "go", desc := "(I)I" } : Jvm.MethodName)) ∈ lw_good := gw 228 (by decide +kernel) rfl
set_option maxRecDepth 20000 in
theorem q_227 : (Jvm.Cond.selects "BusStage" ({ cls := "BusStage", name := "go", desc := "(I)I" } : Jvm.MethodName) ({ cls := "BusStage", name := "go", desc := "(I)I" } : Jvm.MethodName)) ∈ lw_good := gw 229 (by decide +kernel) rfl
set_option maxRecDepth 20000 in
theorem q_228 : (Jvm.Cond.code ({ cls := "BusStage", name := "go", desc := "(I)I" } : Jvm.MethodName) prog_1_method_12_code (3 : Nat) (Option.some Jvm.ClassFile.FieldType.int)) ∈ lw_good := gw 230 (by decide +kernel) rfl
set_option maxRecDepth 20000 in
theorem q_230 : (Jvm.Cond.methodLink "BusStage" (141 : Nat) ({ cls := "BusStage$Line", name := "passengersIn", desc := "(I)I" } : Jvm.MethodName)) ∈ lw_good := gw 232 (by decide +kernel) rfl
set_option maxRecDepth 20000 in
theorem q_231 : (Jvm.Cond.methodLink "BusStage" (144 : Nat) ({ cls := "BusStage$Line", name := "passMinutes", desc := "(I)V" } : Jvm.MethodName)) ∈ lw_good := gw 233 (by decide +kernel) rfl
set_option maxRecDepth 20000 in
theorem q_232 : (Jvm.Cond.instanceMethod ({ cls := "BusStage$Line", name := "passMinutes", desc := "(I)V" } : Jvm.MethodName)) ∈ lw_good := gw 234 (by decide +kernel) rfl
set_option maxRecDepth 20000 in
theorem q_233 : (Jvm.Cond.selects "BusStage$Line" ({ cls := "BusStage$Line", name := "passMinutes", desc := "(I)V" } : Jvm.MethodName) ({ cls := "BusStage$Line", name := "passMinutes", desc := "(I)V" } : Jvm.MethodName)) ∈ lw_good := gw 235 (by decide +kernel) rfl
set_option maxRecDepth 20000 in
theorem q_234 : (Jvm.Cond.code ({ cls := "BusStage$Line", name := "passMinutes", desc := "(I)V" } : Jvm.MethodName) prog_3_method_7_code (3 : Nat) (Option.none : Option Jvm.ClassFile.FieldType)) ∈ lw_good := gw 236 (by decide +kernel) rfl
set_option maxRecDepth 20000 in
theorem q_235 : (Jvm.Cond.methodLink "BusStage$Line" (80 : Nat) ({ cls := "BusStage$Line", name := "passMinute", desc := "()V" } : Jvm.MethodName)) ∈ lw_good := gw 237 (by decide +kernel) rfl
set_option maxRecDepth 20000 in
theorem q_236 : (Jvm.Cond.instanceMethod ({ cls := "BusStage$Line", name := "passMinute", desc := "()V" } : Jvm.MethodName)) ∈ lw_good := gw 238 (by decide +kernel) rfl
set_option maxRecDepth 20000 in
theorem q_237 : (Jvm.Cond.selects "BusStage$Line" ({ cls := "BusStage$Line", name := "passMinute", desc := "()V" } : Jvm.MethodName) ({ cls := "BusStage$Line", name := "passMinute", desc := "()V" } : Jvm.MethodName)) ∈ lw_good := gw 239 (by decide +kernel) rfl
set_option maxRecDepth 20000 in
theorem q_238 : (Jvm.Cond.code ({ cls := "BusStage$Line", name := "passMinute", desc := "()V" } : Jvm.MethodName) prog_3_method_8_code (3 : Nat) (Option.none : Option Jvm.ClassFile.FieldType)) ∈ lw_good := gw 240 (by decide +kernel) rfl
set_option maxRecDepth 20000 in
theorem q_239 : (Jvm.Cond.methodLink "BusStage$Line" (87 : Nat) ({ cls := "BusStage$Line", name := "driveOn", desc := "(LBusStage$Bus;)V" } : Jvm.MethodName)) ∈ lw_good := gw 241 (by decide +kernel) rfl
set_option maxRecDepth 20000 in
theorem q_240 : (Jvm.Cond.instanceMethod ({ cls := "BusStage$Line", name := "driveOn", desc := "(LBusStage$Bus;)V" } : Jvm.MethodName)) ∈ lw_good := gw 242 (by decide +kernel) rfl
set_option maxRecDepth 20000 in
theorem q_241 : (Jvm.Cond.selects "BusStage$Line" ({ cls := "BusStage$Line", name := "driveOn", desc := "(LBusStage$Bus;)V" } : Jvm.MethodName) ({ cls := "BusStage$Line", name := "driveOn", desc := "(LBusStage$Bus;)V" } : Jvm.MethodName)) ∈ lw_good := gw 243 (by decide +kernel) rfl
set_option maxRecDepth 20000 in
theorem q_242 : (Jvm.Cond.code ({ cls := "BusStage$Line", name := "driveOn", desc := "(LBusStage$Bus;)V" } : Jvm.MethodName) prog_3_method_9_code (4 : Nat) (Option.none : Option Jvm.ClassFile.FieldType)) ∈ lw_good := gw 244 (by decide +kernel) rfl
set_option maxRecDepth 20000 in
theorem q_243 : (Jvm.Cond.methodLink "BusStage$Line" (99 : Nat) ({ cls := "BusStage$Line", name := "letOff", desc := "(LBusStage$Bus;)I" } : Jvm.MethodName)) ∈ lw_good := gw 245 (by decide +kernel) rfl
set_option maxRecDepth 20000 in
theorem q_244 : (Jvm.Cond.instanceMethod ({ cls := "BusStage$Line", name := "letOff", desc := "(LBusStage$Bus;)I" } : Jvm.MethodName)) ∈ lw_good := gw 246 (by decide +kernel) rfl
set_option maxRecDepth 20000 in
theorem q_245 : (Jvm.Cond.selects "BusStage$Line" ({ cls := "BusStage$Line", name := "letOff", desc := "(LBusStage$Bus;)I" } : Jvm.MethodName) ({ cls := "BusStage$Line", name := "letOff", desc := "(LBusStage$Bus;)I" } : Jvm.MethodName)) ∈ lw_good := gw 247 (by decide +kernel) rfl
set_option maxRecDepth 20000 in
theorem q_246 : (Jvm.Cond.code ({ cls := "BusStage$Line", name := "letOff", desc := "(LBusStage$Bus;)I" } : Jvm.MethodName) prog_3_method_11_code (4 : Nat) (Option.some Jvm.ClassFile.FieldType.int)) ∈ lw_good := gw 248 (by decide +kernel) rfl
set_option maxRecDepth 20000 in
theorem q_247 : (Jvm.Cond.methodLink "BusStage$Line" (116 : Nat) ({ cls := "BusStage$Passenger", name := "leavesAt", desc := "(ILBusStage$Bus;)Z" } : Jvm.MethodName)) ∈ lw_good := gw 249 (by decide +kernel) rfl
set_option maxRecDepth 20000 in
theorem q_248 : (Jvm.Cond.instanceMethod ({ cls := "BusStage$Passenger", name := "leavesAt", desc := "(ILBusStage$Bus;)Z" } : Jvm.MethodName)) ∈ lw_good := gw 250 (by decide +kernel) rfl
set_option maxRecDepth 20000 in
theorem q_249 : (Jvm.Cond.selects "BusStage$Passenger" ({ cls := "BusStage$Passenger", name := "leavesAt", desc := "(ILBusStage$Bus;)Z" } : Jvm.MethodName) ({ cls := "BusStage$Passenger", name := "leavesAt", desc := "(ILBusStage$Bus;)Z" } : Jvm.MethodName)) ∈ lw_good := gw 251 (by decide +kernel) rfl
set_option maxRecDepth 20000 in
theorem q_250 : (Jvm.Cond.code ({ cls := "BusStage$Passenger", name := "leavesAt", desc := "(ILBusStage$Bus;)Z" } : Jvm.MethodName) prog_4_method_4_code (3 : Nat) (Option.some Jvm.ClassFile.FieldType.boolean)) ∈ lw_good := gw 252 (by decide +kernel) rfl
set_option maxRecDepth 20000 in
theorem q_251 : (Jvm.Cond.methodLink "BusStage$Line" (120 : Nat) ({ cls := "BusStage$Passenger", name := "getOff", desc := "(I)V" } : Jvm.MethodName)) ∈ lw_good := gw 253 (by decide +kernel) rfl
set_option maxRecDepth 20000 in
theorem q_252 : (Jvm.Cond.instanceMethod ({ cls := "BusStage$Passenger", name := "getOff", desc := "(I)V" } : Jvm.MethodName)) ∈ lw_good := gw 254 (by decide +kernel) rfl
set_option maxRecDepth 20000 in
theorem q_253 : (Jvm.Cond.selects "BusStage$Passenger" ({ cls := "BusStage$Passenger", name := "getOff", desc := "(I)V" } : Jvm.MethodName) ({ cls := "BusStage$Passenger", name := "getOff", desc := "(I)V" } : Jvm.MethodName)) ∈ lw_good := gw 255 (by decide +kernel) rfl
set_option maxRecDepth 20000 in
theorem q_254 : (Jvm.Cond.code ({ cls := "BusStage$Passenger", name := "getOff", desc := "(I)V" } : Jvm.MethodName) prog_4_method_7_code (2 : Nat) (Option.none : Option Jvm.ClassFile.FieldType)) ∈ lw_good := gw 256 (by decide +kernel) rfl
set_option maxRecDepth 20000 in
theorem q_255 : (Jvm.Cond.methodLink "BusStage$Line" (103 : Nat) ({ cls := "BusStage$Line", name := "letOn", desc := "(LBusStage$Bus;)I" } : Jvm.MethodName)) ∈ lw_good := gw 257 (by decide +kernel) rfl
set_option maxRecDepth 20000 in
theorem q_256 : (Jvm.Cond.instanceMethod ({ cls := "BusStage$Line", name := "letOn", desc := "(LBusStage$Bus;)I" } : Jvm.MethodName)) ∈ lw_good := gw 258 (by decide +kernel) rfl
set_option maxRecDepth 20000 in
theorem q_257 : (Jvm.Cond.selects "BusStage$Line" ({ cls := "BusStage$Line", name := "letOn", desc := "(LBusStage$Bus;)I" } : Jvm.MethodName) ({ cls := "BusStage$Line", name := "letOn", desc := "(LBusStage$Bus;)I" } : Jvm.MethodName)) ∈ lw_good := gw 259 (by decide +kernel) rfl
set_option maxRecDepth 20000 in
theorem q_258 : (Jvm.Cond.code ({ cls := "BusStage$Line", name := "letOn", desc := "(LBusStage$Bus;)I" } : Jvm.MethodName) prog_3_method_12_code (5 : Nat) (Option.some Jvm.ClassFile.FieldType.int)) ∈ lw_good := gw 260 (by decide +kernel) rfl
set_option maxRecDepth 20000 in
theorem q_259 : (Jvm.Cond.methodLink "BusStage$Line" (133 : Nat) ({ cls := "BusStage$Line", name := "fareBetween", desc := "(II)I" } : Jvm.MethodName)) ∈ lw_good := gw 261 (by decide +kernel) rfl
set_option maxRecDepth 20000 in
theorem q_260 : (Jvm.Cond.methodLink "BusStage$Line" (137 : Nat) ({ cls := "BusStage$Passenger", name := "getOn", desc := "(LBusStage$Bus;I)I" } : Jvm.MethodName)) ∈ lw_good := gw 262 (by decide +kernel) rfl
set_option maxRecDepth 20000 in
theorem q_261 : (Jvm.Cond.instanceMethod ({ cls := "BusStage$Passenger", name := "getOn", desc := "(LBusStage$Bus;I)I" } : Jvm.MethodName)) ∈ lw_good := gw 263 (by decide +kernel) rfl
set_option maxRecDepth 20000 in
theorem q_262 : (Jvm.Cond.selects "BusStage$Passenger" ({ cls := "BusStage$Passenger", name := "getOn", desc := "(LBusStage$Bus;I)I" } : Jvm.MethodName) ({ cls := "BusStage$Passenger", name := "getOn", desc := "(LBusStage$Bus;I)I" } : Jvm.MethodName)) ∈ lw_good := gw 264 (by decide +kernel) rfl
set_option maxRecDepth 20000 in
theorem q_263 : (Jvm.Cond.code ({ cls := "BusStage$Passenger", name := "getOn", desc := "(LBusStage$Bus;I)I" } : Jvm.MethodName) prog_4_method_6_code (4 : Nat) (Option.some Jvm.ClassFile.FieldType.int)) ∈ lw_good := gw 265 (by decide +kernel) rfl
set_option maxRecDepth 20000 in
theorem q_264 : (Jvm.Cond.methodLink "BusStage$Line" (90 : Nat) ({ cls := "BusStage$Line", name := "standOn", desc := "(LBusStage$Bus;)V" } : Jvm.MethodName)) ∈ lw_good := gw 266 (by decide +kernel) rfl
set_option maxRecDepth 20000 in
theorem q_265 : (Jvm.Cond.instanceMethod ({ cls := "BusStage$Line", name := "standOn", desc := "(LBusStage$Bus;)V" } : Jvm.MethodName)) ∈ lw_good := gw 267 (by decide +kernel) rfl
set_option maxRecDepth 20000 in
theorem q_266 : (Jvm.Cond.selects "BusStage$Line" ({ cls := "BusStage$Line", name := "standOn", desc := "(LBusStage$Bus;)V" } : Jvm.MethodName) ({ cls := "BusStage$Line", name := "standOn", desc := "(LBusStage$Bus;)V" } : Jvm.MethodName)) ∈ lw_good := gw 268 (by decide +kernel) rfl
set_option maxRecDepth 20000 in
theorem q_267 : (Jvm.Cond.code ({ cls := "BusStage$Line", name := "standOn", desc := "(LBusStage$Bus;)V" } : Jvm.MethodName) prog_3_method_10_code (3 : Nat) (Option.none : Option Jvm.ClassFile.FieldType)) ∈ lw_good := gw 269 (by decide +kernel) rfl
set_option maxRecDepth 20000 in
theorem q_268 : (Jvm.Cond.methodLink "BusStage$Line" (106 : Nat) ({ cls := "BusStage$Stop", name := "letsLeave", desc := "(II)Z" } : Jvm.MethodName)) ∈ lw_good := gw 270 (by decide +kernel) rfl
set_option maxRecDepth 20000 in
theorem q_269 : (Jvm.Cond.instanceMethod ({ cls := "BusStage$Stop", name := "letsLeave", desc := "(II)Z" } : Jvm.MethodName)) ∈ lw_good := gw 271 (by decide +kernel) rfl
set_option maxRecDepth 20000 in
theorem q_270 : (Jvm.Cond.selects "BusStage$Stop" ({ cls := "BusStage$Stop", name := "letsLeave", desc := "(II)Z" } : Jvm.MethodName) ({ cls := "BusStage$Stop", name := "letsLeave", desc := "(II)Z" } : Jvm.MethodName)) ∈ lw_good := gw 272 (by decide +kernel) rfl
set_option maxRecDepth 20000 in
theorem q_271 : (Jvm.Cond.code ({ cls := "BusStage$Stop", name := "letsLeave", desc := "(II)Z" } : Jvm.MethodName) prog_5_method_3_code (3 : Nat) (Option.some Jvm.ClassFile.FieldType.boolean)) ∈ lw_good := gw 273 (by decide +kernel) rfl
set_option maxRecDepth 20000 in
theorem q_272 : (Jvm.Cond.methodLink "BusStageLaw" (73 : Nat) ({ cls := "BusStage", name := "arrives", desc := "(I)I" } : Jvm.MethodName)) ∈ lw_good := gw 274 (by decide +kernel) rfl
set_option maxRecDepth 20000 in
theorem q_273 : (Jvm.Cond.instanceMethod ({ cls := "BusStage", name := "arrives", desc := "(I)I" } : Jvm.MethodName)) ∈ lw_good := gw 275 (by decide +kernel) rfl
set_option maxRecDepth 20000 in
theorem q_274 : (Jvm.Cond.selects "BusStage" ({ cls := "BusStage", name := "arrives", desc := "(I)I" } : Jvm.MethodName) ({ cls := "BusStage", name := "arrives", desc := "(I)I" } : Jvm.MethodName)) ∈ lw_good := gw 276 (by decide +kernel) rfl
set_option maxRecDepth 20000 in
theorem q_275 : (Jvm.Cond.code ({ cls := "BusStage", name := "arrives", desc := "(I)I" } : Jvm.MethodName) prog_1_method_13_code (4 : Nat) (Option.some Jvm.ClassFile.FieldType.int)) ∈ lw_good := gw 277 (by decide +kernel) rfl
set_option maxRecDepth 20000 in
theorem q_277 : (Jvm.Cond.methodLink "BusStage" (150 : Nat) ({ cls := "BusStage$Line", name := "copyFrom", desc := "(LBusStage$Line;)V" } : Jvm.MethodName)) ∈ lw_good := gw 279 (by decide +kernel) rfl
set_option maxRecDepth 20000 in
theorem q_278 : (Jvm.Cond.instanceMethod ({ cls := "BusStage$Line", name := "copyFrom", desc := "(LBusStage$Line;)V" } : Jvm.MethodName)) ∈ lw_good := gw 280 (by decide +kernel) rfl
set_option maxRecDepth 20000 in
theorem q_279 : (Jvm.Cond.selects "BusStage$Line" ({ cls := "BusStage$Line", name := "copyFrom", desc := "(LBusStage$Line;)V" } : Jvm.MethodName) ({ cls := "BusStage$Line", name := "copyFrom", desc := "(LBusStage$Line;)V" } : Jvm.MethodName)) ∈ lw_good := gw 281 (by decide +kernel) rfl
set_option maxRecDepth 20000 in
theorem q_280 : (Jvm.Cond.code ({ cls := "BusStage$Line", name := "copyFrom", desc := "(LBusStage$Line;)V" } : Jvm.MethodName) prog_3_method_2_code (3 : Nat) (Option.none : Option Jvm.ClassFile.FieldType)) ∈ lw_good := gw 282 (by decide +kernel) rfl
set_option maxRecDepth 20000 in
theorem q_281 : (Jvm.Cond.methodLink "BusStage$Line" (34 : Nat) ({ cls := "BusStage$Stop", name := "copyFrom", desc := "(LBusStage$Stop;)V" } : Jvm.MethodName)) ∈ lw_good := gw 283 (by decide +kernel) rfl
set_option maxRecDepth 20000 in
theorem q_282 : (Jvm.Cond.instanceMethod ({ cls := "BusStage$Stop", name := "copyFrom", desc := "(LBusStage$Stop;)V" } : Jvm.MethodName)) ∈ lw_good := gw 284 (by decide +kernel) rfl
set_option maxRecDepth 20000 in
theorem q_283 : (Jvm.Cond.selects "BusStage$Stop" ({ cls := "BusStage$Stop", name := "copyFrom", desc := "(LBusStage$Stop;)V" } : Jvm.MethodName) ({ cls := "BusStage$Stop", name := "copyFrom", desc := "(LBusStage$Stop;)V" } : Jvm.MethodName)) ∈ lw_good := gw 285 (by decide +kernel) rfl
set_option maxRecDepth 20000 in
theorem q_284 : (Jvm.Cond.code ({ cls := "BusStage$Stop", name := "copyFrom", desc := "(LBusStage$Stop;)V" } : Jvm.MethodName) prog_5_method_2_code (2 : Nat) (Option.none : Option Jvm.ClassFile.FieldType)) ∈ lw_good := gw 286 (by decide +kernel) rfl
set_option maxRecDepth 20000 in
theorem q_285 : (Jvm.Cond.methodLink "BusStage$Line" (42 : Nat) ({ cls := "BusStage$Bus", name := "copyFrom", desc := "(LBusStage$Bus;)V" } : Jvm.MethodName)) ∈ lw_good := gw 287 (by decide +kernel) rfl
set_option maxRecDepth 20000 in
theorem q_286 : (Jvm.Cond.instanceMethod ({ cls := "BusStage$Bus", name := "copyFrom", desc := "(LBusStage$Bus;)V" } : Jvm.MethodName)) ∈ lw_good := gw 288 (by decide +kernel) rfl
set_option maxRecDepth 20000 in
theorem q_287 : (Jvm.Cond.selects "BusStage$Bus" ({ cls := "BusStage$Bus", name := "copyFrom", desc := "(LBusStage$Bus;)V" } : Jvm.MethodName) ({ cls := "BusStage$Bus", name := "copyFrom", desc := "(LBusStage$Bus;)V" } : Jvm.MethodName)) ∈ lw_good := gw 289 (by decide +kernel) rfl
set_option maxRecDepth 20000 in
theorem q_288 : (Jvm.Cond.code ({ cls := "BusStage$Bus", name := "copyFrom", desc := "(LBusStage$Bus;)V" } : Jvm.MethodName) prog_2_method_2_code (2 : Nat) (Option.none : Option Jvm.ClassFile.FieldType)) ∈ lw_good := gw 290 (by decide +kernel) rfl
set_option maxRecDepth 20000 in
theorem q_289 : (Jvm.Cond.methodLink "BusStage$Line" (48 : Nat) ({ cls := "BusStage$Passenger", name := "copyFrom", desc := "(LBusStage$Passenger;)V" } : Jvm.MethodName)) ∈ lw_good := gw 291 (by decide +kernel) rfl
set_option maxRecDepth 20000 in
theorem q_290 : (Jvm.Cond.instanceMethod ({ cls := "BusStage$Passenger", name := "copyFrom", desc := "(LBusStage$Passenger;)V" } : Jvm.MethodName)) ∈ lw_good := gw 292 (by decide +kernel) rfl
set_option maxRecDepth 20000 in
theorem q_291 : (Jvm.Cond.selects "BusStage$Passenger" ({ cls := "BusStage$Passenger", name := "copyFrom", desc := "(LBusStage$Passenger;)V" } : Jvm.MethodName) ({ cls := "BusStage$Passenger", name := "copyFrom", desc := "(LBusStage$Passenger;)V" } : Jvm.MethodName)) ∈ lw_good := gw 293 (by decide +kernel) rfl
set_option maxRecDepth 20000 in
theorem q_292 : (Jvm.Cond.code ({ cls := "BusStage$Passenger", name := "copyFrom", desc := "(LBusStage$Passenger;)V" } : Jvm.MethodName) prog_4_method_2_code (2 : Nat) (Option.none : Option Jvm.ClassFile.FieldType)) ∈ lw_good := gw 294 (by decide +kernel) rfl
set_option maxRecDepth 20000 in
theorem q_293 : (Jvm.Cond.methodLink "BusStage" (154 : Nat) ({ cls := "BusStage$Line", name := "passMinute", desc := "()V" } : Jvm.MethodName)) ∈ lw_good := gw 295 (by decide +kernel) rfl
set_option maxRecDepth 20000 in
theorem q_294 : (Jvm.Cond.methodLink "BusStageLaw" (70 : Nat) ({ cls := "BusStage", name := "foresee", desc := "(II)I" } : Jvm.MethodName)) ∈ lw_good := gw 296 (by decide +kernel) rfl
set_option maxRecDepth 20000 in
theorem q_295 : (Jvm.Cond.instanceMethod ({ cls := "BusStage", name := "foresee", desc := "(II)I" } : Jvm.MethodName)) ∈ lw_good := gw 297 (by decide +kernel) rfl
set_option maxRecDepth 20000 in
theorem q_296 : (Jvm.Cond.selects "BusStage" ({ cls := "BusStage", name := "foresee", desc := "(II)I" } : Jvm.MethodName) ({ cls := "BusStage", name := "foresee", desc := "(II)I" } : Jvm.MethodName)) ∈ lw_good := gw 298 (by decide +kernel) rfl
set_option maxRecDepth 20000 in
theorem q_297 : (Jvm.Cond.code ({ cls := "BusStage", name := "foresee", desc := "(II)I" } : Jvm.MethodName) prog_1_method_14_code (3 : Nat) (Option.some Jvm.ClassFile.FieldType.int)) ∈ lw_good := gw 299 (by decide +kernel) rfl
set_option maxRecDepth 20000 in
theorem q_298 : (Jvm.Cond.methodLink "BusStage" (157 : Nat) ({ cls := "BusStage$Line", name := "allPaid", desc := "()I" } : Jvm.MethodName)) ∈ lw_good := gw 300 (by decide +kernel) rfl
set_option maxRecDepth 20000 in
theorem q_299 : (Jvm.Cond.methodLink "BusStage" (161 : Nat) ({ cls := "BusStage$Line", name := "allWaited", desc := "()I" } : Jvm.MethodName)) ∈ lw_good := gw 301 (by decide +kernel) rfl
set_option maxRecDepth 20000 in
theorem q_300 : (Jvm.Cond.methodLink "BusStage" (164 : Nat) ({ cls := "BusStage$Line", name := "bunchedPairs", desc := "()I" } : Jvm.MethodName)) ∈ lw_good := gw 302 (by decide +kernel) rfl
set_option maxRecDepth 20000 in
theorem q_301 : (Jvm.Cond.methodLink "BusStageLaw" (76 : Nat) ({ cls := "BusStage", name := "advise", desc := "(I)I" } : Jvm.MethodName)) ∈ lw_good := gw 303 (by decide +kernel) rfl
set_option maxRecDepth 20000 in
theorem q_302 : (Jvm.Cond.instanceMethod ({ cls := "BusStage", name := "advise", desc := "(I)I" } : Jvm.MethodName)) ∈ lw_good := gw 304 (by decide +kernel) rfl
set_option maxRecDepth 20000 in
theorem q_303 : (Jvm.Cond.selects "BusStage" ({ cls := "BusStage", name := "advise", desc := "(I)I" } : Jvm.MethodName) ({ cls := "BusStage", name := "advise", desc := "(I)I" } : Jvm.MethodName)) ∈ lw_good := gw 305 (by decide +kernel) rfl
set_option maxRecDepth 20000 in
theorem q_304 : (Jvm.Cond.code ({ cls := "BusStage", name := "advise", desc := "(I)I" } : Jvm.MethodName) prog_1_method_15_code (6 : Nat) (Option.some Jvm.ClassFile.FieldType.int)) ∈ lw_good := gw 306 (by decide +kernel) rfl
set_option maxRecDepth 20000 in
theorem q_305 : (Jvm.Cond.methodLink "BusStageLaw" (66 : Nat) ({ cls := "BusStage", name := "digest", desc := "()J" } : Jvm.MethodName)) ∈ lw_good := gw 307 (by decide +kernel) rfl
set_option maxRecDepth 20000 in
theorem q_306 : (Jvm.Cond.instanceMethod ({ cls := "BusStage", name := "digest", desc := "()J" } : Jvm.MethodName)) ∈ lw_good := gw 308 (by decide +kernel) rfl
set_option maxRecDepth 20000 in
theorem q_307 : (Jvm.Cond.selects "BusStage" ({ cls := "BusStage", name := "digest", desc := "()J" } : Jvm.MethodName) ({ cls := "BusStage", name := "digest", desc := "()J" } : Jvm.MethodName)) ∈ lw_good := gw 309 (by decide +kernel) rfl
set_option maxRecDepth 20000 in
theorem q_308 : (Jvm.Cond.code ({ cls := "BusStage", name := "digest", desc := "()J" } : Jvm.MethodName) prog_1_method_17_code (5 : Nat) (Option.some Jvm.ClassFile.FieldType.long)) ∈ lw_good := gw 310 (by decide +kernel) rfl
set_option maxRecDepth 20000 in
theorem q_309 : (Jvm.Cond.constantLong "BusStage" (167 : Nat) (1039 : Int64)) ∈ lw_good := gw 311 (by decide +kernel) rfl
set_option maxRecDepth 20000 in
theorem q_310 : (Jvm.Cond.constantLong "BusStage" (169 : Nat) (31 : Int64)) ∈ lw_good := gw 312 (by decide +kernel) rfl
set_option maxRecDepth 20000 in
theorem q_311 : (Jvm.Cond.methodLink "BusStageLaw" (18 : Nat) ({ cls := "BusStageLaw", name := "below", desc := "(II)I" } : Jvm.MethodName)) ∈ lw_good := gw 313 (by decide +kernel) rfl
set_option maxRecDepth 20000 in
theorem q_312 : (Jvm.Cond.static ({ cls := "BusStageLaw", name := "below", desc := "(II)I" } : Jvm.MethodName)) ∈ lw_good := gw 314 (by decide +kernel) rfl
set_option maxRecDepth 20000 in
theorem q_313 : (Jvm.Cond.code ({ cls := "BusStageLaw", name := "below", desc := "(II)I" } : Jvm.MethodName) method_2_code (2 : Nat) (Option.some Jvm.ClassFile.FieldType.int)) ∈ lw_good := gw 315 (by decide +kernel) rfl
set_option maxRecDepth 20000 in
theorem q_315 : (Jvm.Cond.methodLink "BusStageLaw" (12 : Nat) ({ cls := "BusStageLaw", name := "cell", desc := "([II)I" } : Jvm.MethodName)) ∈ lw_good := gw 317 (by decide +kernel) rfl
set_option maxRecDepth 20000 in
theorem q_316 : (Jvm.Cond.static ({ cls := "BusStageLaw", name := "cell", desc := "([II)I" } : Jvm.MethodName)) ∈ lw_good := gw 318 (by decide +kernel) rfl
set_option maxRecDepth 20000 in
theorem q_317 : (Jvm.Cond.code ({ cls := "BusStageLaw", name := "cell", desc := "([II)I" } : Jvm.MethodName) method_3_code (2 : Nat) (Option.some Jvm.ClassFile.FieldType.int)) ∈ lw_good := gw 319 (by decide +kernel) rfl
set_option maxRecDepth 20000 in
theorem q_319 : (Jvm.Cond.methodLink "BusStageLaw" (48 : Nat) ({ cls := "BusStageLaw", name := "line", desc := "([I)LBusStage;" } : Jvm.MethodName)) ∈ lw_good := gw 321 (by decide +kernel) rfl
set_option maxRecDepth 20000 in
theorem q_320 : (Jvm.Cond.static ({ cls := "BusStageLaw", name := "line", desc := "([I)LBusStage;" } : Jvm.MethodName)) ∈ lw_good := gw 322 (by decide +kernel) rfl
set_option maxRecDepth 20000 in
theorem q_321 : (Jvm.Cond.code ({ cls := "BusStageLaw", name := "line", desc := "([I)LBusStage;" } : Jvm.MethodName) method_4_code (7 : Nat) (Option.some (Jvm.ClassFile.FieldType.object "BusStage"))) ∈ lw_good := gw 323 (by decide +kernel) rfl
set_option maxRecDepth 20000 in
theorem q_322 : (Jvm.Cond.classLink "BusStageLaw" (9 : Nat) "BusStage") ∈ lw_good := gw 324 (by decide +kernel) rfl
set_option maxRecDepth 20000 in
theorem q_323 : (Jvm.Cond.methodLink "BusStageLaw" (11 : Nat) ({ cls := "BusStage", name := "<init>", desc := "()V" } : Jvm.MethodName)) ∈ lw_good := gw 325 (by decide +kernel) rfl
set_option maxRecDepth 20000 in
theorem q_324 : (Jvm.Cond.instanceMethod ({ cls := "BusStage", name := "<init>", desc := "()V" } : Jvm.MethodName)) ∈ lw_good := gw 326 (by decide +kernel) rfl
set_option maxRecDepth 20000 in
theorem q_325 : (Jvm.Cond.code ({ cls := "BusStage", name := "<init>", desc := "()V" } : Jvm.MethodName) prog_1_method_1_code (1 : Nat) (Option.none : Option Jvm.ClassFile.FieldType)) ∈ lw_good := gw 327 (by decide +kernel) rfl
set_option maxRecDepth 20000 in
theorem q_326 : (Jvm.Cond.methodLink "BusStage" (1 : Nat) ({ cls := "java/lang/Object", name := "<init>", desc := "()V" } : Jvm.MethodName)) ∈ lw_good := gw 328 (by decide +kernel) rfl
set_option maxRecDepth 20000 in
theorem q_327 : (Jvm.Cond.classLink "BusStage" (7 : Nat) "BusStage$Line") ∈ lw_good := gw 329 (by decide +kernel) rfl
set_option maxRecDepth 20000 in
theorem q_328 : (Jvm.Cond.instantiable "BusStage$Line" (7 : Nat)) ∈ lw_good := gw 330 (by decide +kernel) rfl
set_option maxRecDepth 20000 in
theorem q_329 : (Jvm.Cond.methodLink "BusStage" (9 : Nat) ({ cls := "BusStage$Line", name := "<init>", desc := "()V" } : Jvm.MethodName)) ∈ lw_good := gw 331 (by decide +kernel) rfl
set_option maxRecDepth 20000 in
theorem q_330 : (Jvm.Cond.instanceMethod ({ cls := "BusStage$Line", name := "<init>", desc := "()V" } : Jvm.MethodName)) ∈ lw_good := gw 332 (by decide +kernel) rfl
set_option maxRecDepth 20000 in
theorem q_331 : (Jvm.Cond.code ({ cls := "BusStage$Line", name := "<init>", desc := "()V" } : Jvm.MethodName) prog_3_method_1_code (2 : Nat) (Option.none : Option Jvm.ClassFile.FieldType)) ∈ lw_good := gw 333 (by decide +kernel) rfl
set_option maxRecDepth 20000 in
theorem q_332 : (Jvm.Cond.methodLink "BusStage$Line" (3 : Nat) ({ cls := "java/lang/Object", name := "<init>", desc := "()V" } : Jvm.MethodName)) ∈ lw_good := gw 334 (by decide +kernel) rfl
set_option maxRecDepth 20000 in
theorem q_333 : (Jvm.Cond.classLink "BusStage$Line" (9 : Nat) "BusStage$Stop") ∈ lw_good := gw 335 (by decide +kernel) rfl
set_option maxRecDepth 20000 in
theorem q_335 : (Jvm.Cond.classLink "BusStage$Line" (17 : Nat) "BusStage$Bus") ∈ lw_good := gw 337 (by decide +kernel) rfl
set_option maxRecDepth 20000 in
theorem q_337 : (Jvm.Cond.classLink "BusStage$Line" (23 : Nat) "BusStage$Passenger") ∈ lw_good := gw 339 (by decide +kernel) rfl
set_option maxRecDepth 20000 in
theorem q_339 : (Jvm.Cond.instantiable "BusStage$Stop" (3 : Nat)) ∈ lw_good := gw 341 (by decide +kernel) rfl
set_option maxRecDepth 20000 in
theorem q_340 : (Jvm.Cond.methodLink "BusStage$Line" (29 : Nat) ({ cls := "BusStage$Stop", name := "<init>", desc := "(I)V" } : Jvm.MethodName)) ∈ lw_good := gw 342 (by decide +kernel) rfl
set_option maxRecDepth 20000 in
theorem q_341 : (Jvm.Cond.instanceMethod ({ cls := "BusStage$Stop", name := "<init>", desc := "(I)V" } : Jvm.MethodName)) ∈ lw_good := gw 343 (by decide +kernel) rfl
set_option maxRecDepth 20000 in
theorem q_342 : (Jvm.Cond.code ({ cls := "BusStage$Stop", name := "<init>", desc := "(I)V" } : Jvm.MethodName) prog_5_method_1_code (2 : Nat) (Option.none : Option Jvm.ClassFile.FieldType)) ∈ lw_good := gw 344 (by decide +kernel) rfl
set_option maxRecDepth 20000 in
theorem q_343 : (Jvm.Cond.methodLink "BusStage$Stop" (3 : Nat) ({ cls := "java/lang/Object", name := "<init>", desc := "()V" } : Jvm.MethodName)) ∈ lw_good := gw 345 (by decide +kernel) rfl
set_option maxRecDepth 20000 in
theorem q_344 : (Jvm.Cond.fieldLink "BusStage$Stop" (9 : Nat) "BusStage$Stop" "minutes" "I") ∈ lw_good := gw 346 (by decide +kernel) rfl
set_option maxRecDepth 20000 in
theorem q_345 : (Jvm.Cond.fieldLink "BusStage" (43 : Nat) "BusStage$Stop" "minutes" "I") ∈ lw_good := gw 347 (by decide +kernel) rfl
set_option maxRecDepth 20000 in
theorem q_346 : (Jvm.Cond.fieldLink "BusStage$Line" (113 : Nat) "BusStage$Stop" "minutes" "I") ∈ lw_good := gw 348 (by decide +kernel) rfl
set_option maxRecDepth 20000 in
theorem q_347 : (Jvm.Cond.fieldLink "BusStage$Stop" (15 : Nat) "BusStage$Stop" "stage" "I") ∈ lw_good := gw 349 (by decide +kernel) rfl
set_option maxRecDepth 20000 in
theorem q_348 : (Jvm.Cond.fieldLink "BusStage" (49 : Nat) "BusStage$Stop" "stage" "I") ∈ lw_good := gw 350 (by decide +kernel) rfl
set_option maxRecDepth 20000 in
theorem q_349 : (Jvm.Cond.fieldLink "BusStage$Line" (77 : Nat) "BusStage$Stop" "stage" "I") ∈ lw_good := gw 351 (by decide +kernel) rfl
set_option maxRecDepth 20000 in
theorem q_350 : (Jvm.Cond.fieldLink "BusStage$Stop" (18 : Nat) "BusStage$Stop" "lastLeft" "I") ∈ lw_good := gw 352 (by decide +kernel) rfl
set_option maxRecDepth 20000 in
theorem q_351 : (Jvm.Cond.fieldLink "BusStage$Line" (110 : Nat) "BusStage$Stop" "lastLeft" "I") ∈ lw_good := gw 353 (by decide +kernel) rfl
set_option maxRecDepth 20000 in
theorem q_359 : (Jvm.Cond.instantiable "BusStage$Bus" (7 : Nat)) ∈ lw_good := gw 361 (by decide +kernel) rfl
set_option maxRecDepth 20000 in
theorem q_360 : (Jvm.Cond.methodLink "BusStage$Line" (32 : Nat) ({ cls := "BusStage$Bus", name := "<init>", desc := "(I)V" } : Jvm.MethodName)) ∈ lw_good := gw 362 (by decide +kernel) rfl
set_option maxRecDepth 20000 in
theorem q_361 : (Jvm.Cond.instanceMethod ({ cls := "BusStage$Bus", name := "<init>", desc := "(I)V" } : Jvm.MethodName)) ∈ lw_good := gw 363 (by decide +kernel) rfl
set_option maxRecDepth 20000 in
theorem q_362 : (Jvm.Cond.code ({ cls := "BusStage$Bus", name := "<init>", desc := "(I)V" } : Jvm.MethodName) prog_2_method_1_code (2 : Nat) (Option.none : Option Jvm.ClassFile.FieldType)) ∈ lw_good := gw 364 (by decide +kernel) rfl
set_option maxRecDepth 20000 in
theorem q_363 : (Jvm.Cond.methodLink "BusStage$Bus" (1 : Nat) ({ cls := "java/lang/Object", name := "<init>", desc := "()V" } : Jvm.MethodName)) ∈ lw_good := gw 365 (by decide +kernel) rfl
set_option maxRecDepth 20000 in
theorem q_364 : (Jvm.Cond.fieldLink "BusStage$Bus" (7 : Nat) "BusStage$Bus" "number" "I") ∈ lw_good := gw 366 (by decide +kernel) rfl
set_option maxRecDepth 20000 in
theorem q_365 : (Jvm.Cond.fieldLink "BusStage$Passenger" (37 : Nat) "BusStage$Bus" "number" "I") ∈ lw_good := gw 367 (by decide +kernel) rfl
set_option maxRecDepth 20000 in
theorem q_366 : (Jvm.Cond.fieldLink "BusStage$Line" (66 : Nat) "BusStage$Bus" "number" "I") ∈ lw_good := gw 368 (by decide +kernel) rfl
set_option maxRecDepth 20000 in
theorem q_367 : (Jvm.Cond.fieldLink "BusStage$Bus" (13 : Nat) "BusStage$Bus" "at" "I") ∈ lw_good := gw 369 (by decide +kernel) rfl
set_option maxRecDepth 20000 in
theorem q_368 : (Jvm.Cond.fieldLink "BusStage$Line" (57 : Nat) "BusStage$Bus" "at" "I") ∈ lw_good := gw 370 (by decide +kernel) rfl
set_option maxRecDepth 20000 in
theorem q_369 : (Jvm.Cond.fieldLink "BusStage$Bus" (16 : Nat) "BusStage$Bus" "goes" "Z") ∈ lw_good := gw 371 (by decide +kernel) rfl
set_option maxRecDepth 20000 in
theorem q_370 : (Jvm.Cond.fieldLink "BusStage$Line" (83 : Nat) "BusStage$Bus" "goes" "Z") ∈ lw_good := gw 372 (by decide +kernel) rfl
set_option maxRecDepth 20000 in
theorem q_371 : (Jvm.Cond.fieldLink "BusStage$Bus" (20 : Nat) "BusStage$Bus" "left" "I") ∈ lw_good := gw 373 (by decide +kernel) rfl
set_option maxRecDepth 20000 in
theorem q_372 : (Jvm.Cond.fieldLink "BusStage$Line" (60 : Nat) "BusStage$Bus" "left" "I") ∈ lw_good := gw 374 (by decide +kernel) rfl
set_option maxRecDepth 20000 in
theorem q_373 : (Jvm.Cond.fieldLink "BusStage$Bus" (23 : Nat) "BusStage$Bus" "seats" "I") ∈ lw_good := gw 375 (by decide +kernel) rfl
set_option maxRecDepth 20000 in
theorem q_374 : (Jvm.Cond.fieldLink "BusStage$Line" (63 : Nat) "BusStage$Bus" "seats" "I") ∈ lw_good := gw 376 (by decide +kernel) rfl
set_option maxRecDepth 20000 in
theorem q_375 : (Jvm.Cond.fieldLink "BusStage$Bus" (26 : Nat) "BusStage$Bus" "riders" "I") ∈ lw_good := gw 377 (by decide +kernel) rfl
set_option maxRecDepth 20000 in
theorem q_376 : (Jvm.Cond.fieldLink "BusStage$Line" (123 : Nat) "BusStage$Bus" "riders" "I") ∈ lw_good := gw 378 (by decide +kernel) rfl
set_option maxRecDepth 20000 in
theorem q_377 : (Jvm.Cond.fieldLink "BusStage$Bus" (29 : Nat) "BusStage$Bus" "takings" "I") ∈ lw_good := gw 379 (by decide +kernel) rfl
set_option maxRecDepth 20000 in
theorem q_378 : (Jvm.Cond.fieldLink "BusStage$Line" (130 : Nat) "BusStage$Bus" "takings" "I") ∈ lw_good := gw 380 (by decide +kernel) rfl
set_option maxRecDepth 20000 in
theorem q_394 : (Jvm.Cond.instantiable "BusStage$Passenger" (8 : Nat)) ∈ lw_good := gw 396 (by decide +kernel) rfl
set_option maxRecDepth 20000 in
theorem q_395 : (Jvm.Cond.methodLink "BusStage$Line" (33 : Nat) ({ cls := "BusStage$Passenger", name := "<init>", desc := "()V" } : Jvm.MethodName)) ∈ lw_good := gw 397 (by decide +kernel) rfl
set_option maxRecDepth 20000 in
theorem q_396 : (Jvm.Cond.instanceMethod ({ cls := "BusStage$Passenger", name := "<init>", desc := "()V" } : Jvm.MethodName)) ∈ lw_good := gw 398 (by decide +kernel) rfl
set_option maxRecDepth 20000 in
theorem q_397 : (Jvm.Cond.code ({ cls := "BusStage$Passenger", name := "<init>", desc := "()V" } : Jvm.MethodName) prog_4_method_1_code (1 : Nat) (Option.none : Option Jvm.ClassFile.FieldType)) ∈ lw_good := gw 399 (by decide +kernel) rfl
set_option maxRecDepth 20000 in
theorem q_398 : (Jvm.Cond.methodLink "BusStage$Passenger" (3 : Nat) ({ cls := "java/lang/Object", name := "<init>", desc := "()V" } : Jvm.MethodName)) ∈ lw_good := gw 400 (by decide +kernel) rfl
set_option maxRecDepth 20000 in
theorem q_399 : (Jvm.Cond.fieldLink "BusStage$Passenger" (18 : Nat) "BusStage$Passenger" "state" "I") ∈ lw_good := gw 401 (by decide +kernel) rfl
set_option maxRecDepth 20000 in
theorem q_400 : (Jvm.Cond.fieldLink "BusStage" (90 : Nat) "BusStage$Passenger" "state" "I") ∈ lw_good := gw 402 (by decide +kernel) rfl
set_option maxRecDepth 20000 in
theorem q_401 : (Jvm.Cond.fieldLink "BusStage$Line" (93 : Nat) "BusStage$Passenger" "state" "I") ∈ lw_good := gw 403 (by decide +kernel) rfl
set_option maxRecDepth 20000 in
theorem q_402 : (Jvm.Cond.fieldLink "BusStage$Passenger" (21 : Nat) "BusStage$Passenger" "at" "I") ∈ lw_good := gw 404 (by decide +kernel) rfl
set_option maxRecDepth 20000 in
theorem q_403 : (Jvm.Cond.fieldLink "BusStage$Line" (69 : Nat) "BusStage$Passenger" "at" "I") ∈ lw_good := gw 405 (by decide +kernel) rfl
set_option maxRecDepth 20000 in
theorem q_404 : (Jvm.Cond.fieldLink "BusStage" (95 : Nat) "BusStage$Passenger" "at" "I") ∈ lw_good := gw 406 (by decide +kernel) rfl
set_option maxRecDepth 20000 in
theorem q_405 : (Jvm.Cond.fieldLink "BusStage$Passenger" (24 : Nat) "BusStage$Passenger" "to" "I") ∈ lw_good := gw 407 (by decide +kernel) rfl
set_option maxRecDepth 20000 in
theorem q_406 : (Jvm.Cond.fieldLink "BusStage$Line" (70 : Nat) "BusStage$Passenger" "to" "I") ∈ lw_good := gw 408 (by decide +kernel) rfl
set_option maxRecDepth 20000 in
theorem q_407 : (Jvm.Cond.fieldLink "BusStage$Passenger" (9 : Nat) "BusStage$Passenger" "busNumber" "I") ∈ lw_good := gw 409 (by decide +kernel) rfl
set_option maxRecDepth 20000 in
theorem q_408 : (Jvm.Cond.fieldLink "BusStage$Passenger" (27 : Nat) "BusStage$Passenger" "paid" "I") ∈ lw_good := gw 410 (by decide +kernel) rfl
set_option maxRecDepth 20000 in
theorem q_409 : (Jvm.Cond.fieldLink "BusStage$Line" (161 : Nat) "BusStage$Passenger" "paid" "I") ∈ lw_good := gw 411 (by decide +kernel) rfl
set_option maxRecDepth 20000 in
theorem q_410 : (Jvm.Cond.fieldLink "BusStage$Passenger" (30 : Nat) "BusStage$Passenger" "waited" "I") ∈ lw_good := gw 412 (by decide +kernel) rfl
set_option maxRecDepth 20000 in
theorem q_411 : (Jvm.Cond.fieldLink "BusStage$Line" (96 : Nat) "BusStage$Passenger" "waited" "I") ∈ lw_good := gw 413 (by decide +kernel) rfl
set_option maxRecDepth 20000 in
theorem q_412 : (Jvm.Cond.fieldLink "BusStage$Passenger" (15 : Nat) "BusStage$Passenger" "lastArrival" "I") ∈ lw_good := gw 414 (by decide +kernel) rfl
set_option maxRecDepth 20000 in
theorem q_413 : (Jvm.Cond.fieldLink "BusStage$Passenger" (33 : Nat) "BusStage$Passenger" "hasTransfer" "Z") ∈ lw_good := gw 415 (by decide +kernel) rfl
set_option maxRecDepth 20000 in
theorem q_414 : (Jvm.Cond.fieldLink "BusStage" (107 : Nat) "BusStage$Passenger" "hasTransfer" "Z") ∈ lw_good := gw 416 (by decide +kernel) rfl
set_option maxRecDepth 20000 in
theorem q_432 : (Jvm.Cond.fieldLink "BusStage$Line" (11 : Nat) "BusStage$Line" "stops" "[LBusStage$Stop;") ∈ lw_good := gw 434 (by decide +kernel) rfl
set_option maxRecDepth 20000 in
theorem q_433 : (Jvm.Cond.fieldLink "BusStage$Line" (19 : Nat) "BusStage$Line" "buses" "[LBusStage$Bus;") ∈ lw_good := gw 435 (by decide +kernel) rfl
set_option maxRecDepth 20000 in
theorem q_434 : (Jvm.Cond.fieldLink "BusStage" (116 : Nat) "BusStage$Line" "buses" "[LBusStage$Bus;") ∈ lw_good := gw 436 (by decide +kernel) rfl
set_option maxRecDepth 20000 in
theorem q_435 : (Jvm.Cond.fieldLink "BusStage$Line" (25 : Nat) "BusStage$Line" "passengers" "[LBusStage$Passenger;") ∈ lw_good := gw 437 (by decide +kernel) rfl
set_option maxRecDepth 20000 in
theorem q_436 : (Jvm.Cond.fieldLink "BusStage" (86 : Nat) "BusStage$Line" "passengers" "[LBusStage$Passenger;") ∈ lw_good := gw 438 (by decide +kernel) rfl
set_option maxRecDepth 20000 in
theorem q_437 : (Jvm.Cond.fieldLink "BusStage$Line" (38 : Nat) "BusStage$Line" "busCount" "I") ∈ lw_good := gw 439 (by decide +kernel) rfl
set_option maxRecDepth 20000 in
theorem q_438 : (Jvm.Cond.fieldLink "BusStage" (59 : Nat) "BusStage$Line" "busCount" "I") ∈ lw_good := gw 440 (by decide +kernel) rfl
set_option maxRecDepth 20000 in
theorem q_439 : (Jvm.Cond.fieldLink "BusStage$Line" (45 : Nat) "BusStage$Line" "passengerCount" "I") ∈ lw_good := gw 441 (by decide +kernel) rfl
set_option maxRecDepth 20000 in
theorem q_440 : (Jvm.Cond.fieldLink "BusStage" (73 : Nat) "BusStage$Line" "passengerCount" "I") ∈ lw_good := gw 442 (by decide +kernel) rfl
set_option maxRecDepth 20000 in
theorem q_441 : (Jvm.Cond.fieldLink "BusStage$Line" (51 : Nat) "BusStage$Line" "minute" "I") ∈ lw_good := gw 443 (by decide +kernel) rfl
set_option maxRecDepth 20000 in
theorem q_442 : (Jvm.Cond.fieldLink "BusStage" (100 : Nat) "BusStage$Line" "minute" "I") ∈ lw_good := gw 444 (by decide +kernel) rfl
set_option maxRecDepth 20000 in
theorem q_443 : (Jvm.Cond.fieldLink "BusStage$Line" (54 : Nat) "BusStage$Line" "holdMinutes" "I") ∈ lw_good := gw 445 (by decide +kernel) rfl
set_option maxRecDepth 20000 in
theorem q_444 : (Jvm.Cond.fieldLink "BusStage" (54 : Nat) "BusStage$Line" "holdMinutes" "I") ∈ lw_good := gw 446 (by decide +kernel) rfl
set_option maxRecDepth 20000 in
theorem q_460 : (Jvm.Cond.fieldLink "BusStage" (10 : Nat) "BusStage" "line" "LBusStage$Line;") ∈ lw_good := gw 462 (by decide +kernel) rfl
set_option maxRecDepth 20000 in
theorem q_461 : (Jvm.Cond.fieldLink "BusStage" (16 : Nat) "BusStage" "trial" "LBusStage$Line;") ∈ lw_good := gw 463 (by decide +kernel) rfl
set_option maxRecDepth 20000 in
theorem q_467 : (Jvm.Cond.methodLink "BusStageLaw" (30 : Nat) ({ cls := "BusStage", name := "start", desc := "(II)I" } : Jvm.MethodName)) ∈ lw_good := gw 469 (by decide +kernel) rfl
set_option maxRecDepth 20000 in
theorem q_468 : (Jvm.Cond.instanceMethod ({ cls := "BusStage", name := "start", desc := "(II)I" } : Jvm.MethodName)) ∈ lw_good := gw 470 (by decide +kernel) rfl
set_option maxRecDepth 20000 in
theorem q_469 : (Jvm.Cond.selects "BusStage" ({ cls := "BusStage", name := "start", desc := "(II)I" } : Jvm.MethodName) ({ cls := "BusStage", name := "start", desc := "(II)I" } : Jvm.MethodName)) ∈ lw_good := gw 471 (by decide +kernel) rfl
set_option maxRecDepth 20000 in
theorem q_470 : (Jvm.Cond.code ({ cls := "BusStage", name := "start", desc := "(II)I" } : Jvm.MethodName) prog_1_method_4_code (3 : Nat) (Option.some Jvm.ClassFile.FieldType.int)) ∈ lw_good := gw 472 (by decide +kernel) rfl
set_option maxRecDepth 20000 in
theorem q_473 : (Jvm.Cond.methodLink "BusStage" (67 : Nat) ({ cls := "BusStage$Line", name := "addBus", desc := "(II)I" } : Jvm.MethodName)) ∈ lw_good := gw 475 (by decide +kernel) rfl
set_option maxRecDepth 20000 in
theorem q_474 : (Jvm.Cond.instanceMethod ({ cls := "BusStage$Line", name := "addBus", desc := "(II)I" } : Jvm.MethodName)) ∈ lw_good := gw 476 (by decide +kernel) rfl
set_option maxRecDepth 20000 in
theorem q_475 : (Jvm.Cond.selects "BusStage$Line" ({ cls := "BusStage$Line", name := "addBus", desc := "(II)I" } : Jvm.MethodName) ({ cls := "BusStage$Line", name := "addBus", desc := "(II)I" } : Jvm.MethodName)) ∈ lw_good := gw 477 (by decide +kernel) rfl
set_option maxRecDepth 20000 in
theorem q_476 : (Jvm.Cond.code ({ cls := "BusStage$Line", name := "addBus", desc := "(II)I" } : Jvm.MethodName) prog_3_method_4_code (4 : Nat) (Option.some Jvm.ClassFile.FieldType.int)) ∈ lw_good := gw 478 (by decide +kernel) rfl
set_option maxRecDepth 20000 in
theorem q_477 : (Jvm.Cond.methodLink "BusStageLaw" (39 : Nat) ({ cls := "BusStageLaw", name := "change", desc := "(LBusStage;II)I" } : Jvm.MethodName)) ∈ lw_good := gw 479 (by decide +kernel) rfl
set_option maxRecDepth 20000 in
theorem q_478 : (Jvm.Cond.static ({ cls := "BusStageLaw", name := "change", desc := "(LBusStage;II)I" } : Jvm.MethodName)) ∈ lw_good := gw 480 (by decide +kernel) rfl
set_option maxRecDepth 20000 in
theorem q_479 : (Jvm.Cond.codeWith ({ cls := "BusStageLaw", name := "change", desc := "(LBusStage;II)I" } : Jvm.MethodName) method_5_code (4 : Nat) (Option.some Jvm.ClassFile.FieldType.int) [((0 : Nat), (14 : Nat), (15 : Nat), (46 : Nat))]) ∈ lw_good := gw 481 (by decide +kernel) rfl
set_option maxRecDepth 20000 in
theorem q_480 : (Jvm.Cond.classLink "BusStageLaw" (46 : Nat) "java/lang/IllegalStateException") ∈ lw_good := gw 482 (by decide +kernel) rfl
set_option maxRecDepth 20000 in
theorem q_481 : (Jvm.Cond.methodLink "BusStageLaw" (43 : Nat) ({ cls := "BusStage", name := "change", desc := "(II)Z" } : Jvm.MethodName)) ∈ lw_good := gw 483 (by decide +kernel) rfl
set_option maxRecDepth 20000 in
theorem q_482 : (Jvm.Cond.instanceMethod ({ cls := "BusStage", name := "change", desc := "(II)Z" } : Jvm.MethodName)) ∈ lw_good := gw 484 (by decide +kernel) rfl
set_option maxRecDepth 20000 in
theorem q_483 : (Jvm.Cond.selects "BusStage" ({ cls := "BusStage", name := "change", desc := "(II)Z" } : Jvm.MethodName) ({ cls := "BusStage", name := "change", desc := "(II)Z" } : Jvm.MethodName)) ∈ lw_good := gw 485 (by decide +kernel) rfl
set_option maxRecDepth 20000 in
theorem q_484 : (Jvm.Cond.code ({ cls := "BusStage", name := "change", desc := "(II)Z" } : Jvm.MethodName) prog_1_method_6_code (4 : Nat) (Option.some Jvm.ClassFile.FieldType.boolean)) ∈ lw_good := gw 486 (by decide +kernel) rfl
set_option maxRecDepth 20000 in
theorem q_487 : (Jvm.Cond.methodLink "BusStage" (103 : Nat) ({ cls := "BusStage$Passenger", name := "waitAgain", desc := "(II)V" } : Jvm.MethodName)) ∈ lw_good := gw 489 (by decide +kernel) rfl
set_option maxRecDepth 20000 in
theorem q_488 : (Jvm.Cond.instanceMethod ({ cls := "BusStage$Passenger", name := "waitAgain", desc := "(II)V" } : Jvm.MethodName)) ∈ lw_good := gw 490 (by decide +kernel) rfl
set_option maxRecDepth 20000 in
theorem q_489 : (Jvm.Cond.selects "BusStage$Passenger" ({ cls := "BusStage$Passenger", name := "waitAgain", desc := "(II)V" } : Jvm.MethodName) ({ cls := "BusStage$Passenger", name := "waitAgain", desc := "(II)V" } : Jvm.MethodName)) ∈ lw_good := gw 491 (by decide +kernel) rfl
set_option maxRecDepth 20000 in
theorem q_490 : (Jvm.Cond.code ({ cls := "BusStage$Passenger", name := "waitAgain", desc := "(II)V" } : Jvm.MethodName) prog_4_method_5_code (3 : Nat) (Option.none : Option Jvm.ClassFile.FieldType)) ∈ lw_good := gw 492 (by decide +kernel) rfl
set_option maxRecDepth 20000 in
theorem q_491 : (Jvm.Cond.methodLink "BusStageLaw" (79 : Nat) ({ cls := "java/lang/Math", name := "max", desc := "(II)I" } : Jvm.MethodName)) ∈ lw_good := gw 493 (by decide +kernel) rfl
set_option maxRecDepth 20000 in
theorem q_492 : (Jvm.Cond.static ({ cls := "java/lang/Math", name := "max", desc := "(II)I" } : Jvm.MethodName)) ∈ lw_good := gw 494 (by decide +kernel) rfl
set_option maxRecDepth 20000 in
theorem q_493 : (Jvm.Cond.code ({ cls := "java/lang/Math", name := "max", desc := "(II)I" } : Jvm.MethodName) prog_13_method_65_code (2 : Nat) (Option.some Jvm.ClassFile.FieldType.int)) ∈ lw_good := gw 495 (by decide +kernel) rfl
set_option maxRecDepth 20000 in
theorem q_494 : (Jvm.Cond.classLink "BusStageLaw" (58 : Nat) "[[I") ∈ lw_good := gw 496 (by decide +kernel) rfl
set_option maxRecDepth 20000 in
theorem q_496 : (Jvm.Cond.arrayClass Jvm.ClassFile.FieldType.int) ∈ lw_good := gw 498 (by decide +kernel) rfl
set_option maxRecDepth 20000 in
theorem qs_0 : Cond.selects "java/lang/Throwable" ⟨"java/lang/Throwable", "fillInStackTrace", "(I)Ljava/lang/Throwable;"⟩ ⟨"java/lang/Throwable", "fillInStackTrace", "(I)Ljava/lang/Throwable;"⟩ ∈ lw_good := gw 0 (by decide +kernel) rfl
set_option maxRecDepth 20000 in
theorem qs_1 : Cond.selects "BusStage" ⟨"BusStage", "isPassenger", "(I)Z"⟩ ⟨"BusStage", "isPassenger", "(I)Z"⟩ ∈ lw_good := gw 1 (by decide +kernel) rfl
set_option maxRecDepth 20000 in
theorem inX0 : ∀ w ∈ wsX00, w ∈ lw_good := by decide +kernel
set_option maxRecDepth 20000 in
theorem inX1 : ∀ w ∈ wsX10, w ∈ lw_good := by decide +kernel
set_option maxRecDepth 20000 in
theorem inX2 : ∀ w ∈ wsX20, w ∈ lw_good := by decide +kernel
set_option maxRecDepth 20000 in
theorem inX3 : ∀ w ∈ wsX30, w ∈ lw_good := by decide +kernel
set_option maxRecDepth 20000 in
theorem inX4 : ∀ w ∈ wsX40, w ∈ lw_good := by decide +kernel
end
section
theorem dX0_init_0 : decode cX0_init 0 = .ok (.aload_n 0, 1) := by decide +kernel
theorem dX0_init_1 : decode cX0_init 1 = .ok (.invokespecial 1, 3) := by decide +kernel
theorem dX0_init_4 : decode cX0_init 4 = .ok (.aload_n 0, 1) := by decide +kernel
theorem dX0_init_5 : decode cX0_init 5 = .ok (.iload_n 1, 1) := by decide +kernel
theorem dX0_init_6 : decode cX0_init 6 = .ok (.putfield 7, 3) := by decide +kernel
theorem dX0_init_9 : decode cX0_init 9 = .ok (.return_, 1) := by decide +kernel
theorem dX0_copyFrom_0 : decode cX0_copyFrom 0 = .ok (.aload_n 0, 1) := by decide +kernel
theorem dX0_copyFrom_1 : decode cX0_copyFrom 1 = .ok (.aload_n 1, 1) := by decide +kernel
theorem dX0_copyFrom_2 : decode cX0_copyFrom 2 = .ok (.getfield 13, 3) := by decide +kernel
theorem dX0_copyFrom_5 : decode cX0_copyFrom 5 = .ok (.putfield 13, 3) := by decide +kernel
theorem dX0_copyFrom_8 : decode cX0_copyFrom 8 = .ok (.aload_n 0, 1) := by decide +kernel
theorem dX0_copyFrom_9 : decode cX0_copyFrom 9 = .ok (.aload_n 1, 1) := by decide +kernel
theorem dX0_copyFrom_10 : decode cX0_copyFrom 10 = .ok (.getfield 16, 3) := by decide +kernel
theorem dX0_copyFrom_13 : decode cX0_copyFrom 13 = .ok (.putfield 16, 3) := by decide +kernel
theorem dX0_copyFrom_16 : decode cX0_copyFrom 16 = .ok (.aload_n 0, 1) := by decide +kernel
theorem dX0_copyFrom_17 : decode cX0_copyFrom 17 = .ok (.aload_n 1, 1) := by decide +kernel
theorem dX0_copyFrom_18 : decode cX0_copyFrom 18 = .ok (.getfield 20, 3) := by decide +kernel
theorem dX0_copyFrom_21 : decode cX0_copyFrom 21 = .ok (.putfield 20, 3) := by decide +kernel
theorem dX0_copyFrom_24 : decode cX0_copyFrom 24 = .ok (.aload_n 0, 1) := by decide +kernel
theorem dX0_copyFrom_25 : decode cX0_copyFrom 25 = .ok (.aload_n 1, 1) := by decide +kernel
theorem dX0_copyFrom_26 : decode cX0_copyFrom 26 = .ok (.getfield 23, 3) := by decide +kernel
theorem dX0_copyFrom_29 : decode cX0_copyFrom 29 = .ok (.putfield 23, 3) := by decide +kernel
theorem dX0_copyFrom_32 : decode cX0_copyFrom 32 = .ok (.aload_n 0, 1) := by decide +kernel
theorem dX0_copyFrom_33 : decode cX0_copyFrom 33 = .ok (.aload_n 1, 1) := by decide +kernel
theorem dX0_copyFrom_34 : decode cX0_copyFrom 34 = .ok (.getfield 26, 3) := by decide +kernel
theorem dX0_copyFrom_37 : decode cX0_copyFrom 37 = .ok (.putfield 26, 3) := by decide +kernel
theorem dX0_copyFrom_40 : decode cX0_copyFrom 40 = .ok (.aload_n 0, 1) := by decide +kernel
theorem dX0_copyFrom_41 : decode cX0_copyFrom 41 = .ok (.aload_n 1, 1) := by decide +kernel
theorem dX0_copyFrom_42 : decode cX0_copyFrom 42 = .ok (.getfield 29, 3) := by decide +kernel
theorem dX0_copyFrom_45 : decode cX0_copyFrom 45 = .ok (.putfield 29, 3) := by decide +kernel
theorem dX0_copyFrom_48 : decode cX0_copyFrom 48 = .ok (.return_, 1) := by decide +kernel
theorem dX0_isBunchedWith_0 : decode cX0_isBunchedWith 0 = .ok (.aload_n 0, 1) := by decide +kernel
theorem dX0_isBunchedWith_1 : decode cX0_isBunchedWith 1 = .ok (.getfield 13, 3) := by decide +kernel
theorem dX0_isBunchedWith_4 : decode cX0_isBunchedWith 4 = .ok (.aload_n 1, 1) := by decide +kernel
theorem dX0_isBunchedWith_5 : decode cX0_isBunchedWith 5 = .ok (.getfield 13, 3) := by decide +kernel
theorem dX0_isBunchedWith_8 : decode cX0_isBunchedWith 8 = .ok (.if_icmp .ne 18, 3) := by decide +kernel
theorem dX0_isBunchedWith_11 : decode cX0_isBunchedWith 11 = .ok (.aload_n 0, 1) := by decide +kernel
theorem dX0_isBunchedWith_12 : decode cX0_isBunchedWith 12 = .ok (.getfield 16, 3) := by decide +kernel
theorem dX0_isBunchedWith_15 : decode cX0_isBunchedWith 15 = .ok (.aload_n 1, 1) := by decide +kernel
theorem dX0_isBunchedWith_16 : decode cX0_isBunchedWith 16 = .ok (.getfield 16, 3) := by decide +kernel
theorem dX0_isBunchedWith_19 : decode cX0_isBunchedWith 19 = .ok (.if_icmp .ne 7, 3) := by decide +kernel
theorem dX0_isBunchedWith_22 : decode cX0_isBunchedWith 22 = .ok (.iconst 1, 1) := by decide +kernel
theorem dX0_isBunchedWith_23 : decode cX0_isBunchedWith 23 = .ok (.goto 4, 3) := by decide +kernel
theorem dX0_isBunchedWith_26 : decode cX0_isBunchedWith 26 = .ok (.iconst 0, 1) := by decide +kernel
theorem dX0_isBunchedWith_27 : decode cX0_isBunchedWith 27 = .ok (.ireturn, 1) := by decide +kernel
theorem dX0_tell_0 : decode cX0_tell 0 = .ok (.iload_n 1, 1) := by decide +kernel
theorem dX0_tell_1 : decode cX0_tell 1 = .ok (.tableswitch 68 0 4 #[35, 40, 53, 58, 63], 35) := by decide +kernel
theorem dX0_tell_36 : decode cX0_tell 36 = .ok (.aload_n 0, 1) := by decide +kernel
theorem dX0_tell_37 : decode cX0_tell 37 = .ok (.getfield 13, 3) := by decide +kernel
theorem dX0_tell_40 : decode cX0_tell 40 = .ok (.ireturn, 1) := by decide +kernel
theorem dX0_tell_41 : decode cX0_tell 41 = .ok (.aload_n 0, 1) := by decide +kernel
theorem dX0_tell_42 : decode cX0_tell 42 = .ok (.getfield 16, 3) := by decide +kernel
theorem dX0_tell_45 : decode cX0_tell 45 = .ok (.ifCond .eq 7, 3) := by decide +kernel
theorem dX0_tell_48 : decode cX0_tell 48 = .ok (.iconst 1, 1) := by decide +kernel
theorem dX0_tell_49 : decode cX0_tell 49 = .ok (.goto 4, 3) := by decide +kernel
theorem dX0_tell_52 : decode cX0_tell 52 = .ok (.iconst 0, 1) := by decide +kernel
theorem dX0_tell_53 : decode cX0_tell 53 = .ok (.ireturn, 1) := by decide +kernel
theorem dX0_tell_54 : decode cX0_tell 54 = .ok (.aload_n 0, 1) := by decide +kernel
theorem dX0_tell_55 : decode cX0_tell 55 = .ok (.getfield 20, 3) := by decide +kernel
theorem dX0_tell_58 : decode cX0_tell 58 = .ok (.ireturn, 1) := by decide +kernel
theorem dX0_tell_59 : decode cX0_tell 59 = .ok (.aload_n 0, 1) := by decide +kernel
theorem dX0_tell_60 : decode cX0_tell 60 = .ok (.getfield 23, 3) := by decide +kernel
theorem dX0_tell_63 : decode cX0_tell 63 = .ok (.ireturn, 1) := by decide +kernel
theorem dX0_tell_64 : decode cX0_tell 64 = .ok (.aload_n 0, 1) := by decide +kernel
theorem dX0_tell_65 : decode cX0_tell 65 = .ok (.getfield 26, 3) := by decide +kernel
theorem dX0_tell_68 : decode cX0_tell 68 = .ok (.ireturn, 1) := by decide +kernel
theorem dX0_tell_69 : decode cX0_tell 69 = .ok (.aload_n 0, 1) := by decide +kernel
theorem dX0_tell_70 : decode cX0_tell 70 = .ok (.getfield 29, 3) := by decide +kernel
theorem dX0_tell_73 : decode cX0_tell 73 = .ok (.ireturn, 1) := by decide +kernel
theorem dX1_init_0 : decode cX1_init 0 = .ok (.aload_n 0, 1) := by decide +kernel
theorem dX1_init_1 : decode cX1_init 1 = .ok (.invokespecial 3, 3) := by decide +kernel
theorem dX1_init_4 : decode cX1_init 4 = .ok (.aload_n 0, 1) := by decide +kernel
theorem dX1_init_5 : decode cX1_init 5 = .ok (.bipush 10, 2) := by decide +kernel
theorem dX1_init_7 : decode cX1_init 7 = .ok (.anewarray 9, 3) := by decide +kernel
theorem dX1_init_10 : decode cX1_init 10 = .ok (.putfield 11, 3) := by decide +kernel
theorem dX1_init_13 : decode cX1_init 13 = .ok (.aload_n 0, 1) := by decide +kernel
theorem dX1_init_14 : decode cX1_init 14 = .ok (.bipush 6, 2) := by decide +kernel
theorem dX1_init_16 : decode cX1_init 16 = .ok (.anewarray 17, 3) := by decide +kernel
theorem dX1_init_19 : decode cX1_init 19 = .ok (.putfield 19, 3) := by decide +kernel
theorem dX1_init_22 : decode cX1_init 22 = .ok (.aload_n 0, 1) := by decide +kernel
theorem dX1_init_23 : decode cX1_init 23 = .ok (.bipush 50, 2) := by decide +kernel
theorem dX1_init_25 : decode cX1_init 25 = .ok (.anewarray 23, 3) := by decide +kernel
theorem dX1_init_28 : decode cX1_init 28 = .ok (.putfield 25, 3) := by decide +kernel
theorem dX1_init_31 : decode cX1_init 31 = .ok (.iconst 0, 1) := by decide +kernel
theorem dX1_init_32 : decode cX1_init 32 = .ok (.istore_n 1, 1) := by decide +kernel
theorem dX1_init_33 : decode cX1_init 33 = .ok (.iload_n 1, 1) := by decide +kernel
theorem dX1_init_34 : decode cX1_init 34 = .ok (.bipush 10, 2) := by decide +kernel
theorem dX1_init_36 : decode cX1_init 36 = .ok (.if_icmp .ge 25, 3) := by decide +kernel
theorem dX1_init_39 : decode cX1_init 39 = .ok (.aload_n 0, 1) := by decide +kernel
theorem dX1_init_40 : decode cX1_init 40 = .ok (.getfield 11, 3) := by decide +kernel
theorem dX1_init_43 : decode cX1_init 43 = .ok (.iload_n 1, 1) := by decide +kernel
theorem dX1_init_44 : decode cX1_init 44 = .ok (.new 9, 3) := by decide +kernel
theorem dX1_init_47 : decode cX1_init 47 = .ok (.dup, 1) := by decide +kernel
theorem dX1_init_48 : decode cX1_init 48 = .ok (.iload_n 1, 1) := by decide +kernel
theorem dX1_init_49 : decode cX1_init 49 = .ok (.iconst 2, 1) := by decide +kernel
theorem dX1_init_50 : decode cX1_init 50 = .ok (.idiv, 1) := by decide +kernel
theorem dX1_init_51 : decode cX1_init 51 = .ok (.invokespecial 29, 3) := by decide +kernel
theorem dX1_init_54 : decode cX1_init 54 = .ok (.aastore, 1) := by decide +kernel
theorem dX1_init_55 : decode cX1_init 55 = .ok (.iinc 1 1, 3) := by decide +kernel
theorem dX1_init_58 : decode cX1_init 58 = .ok (.goto (-25), 3) := by decide +kernel
theorem dX1_init_61 : decode cX1_init 61 = .ok (.iconst 0, 1) := by decide +kernel
theorem dX1_init_62 : decode cX1_init 62 = .ok (.istore_n 1, 1) := by decide +kernel
theorem dX1_init_63 : decode cX1_init 63 = .ok (.iload_n 1, 1) := by decide +kernel
theorem dX1_init_64 : decode cX1_init 64 = .ok (.bipush 6, 2) := by decide +kernel
theorem dX1_init_66 : decode cX1_init 66 = .ok (.if_icmp .ge 23, 3) := by decide +kernel
theorem dX1_init_69 : decode cX1_init 69 = .ok (.aload_n 0, 1) := by decide +kernel
theorem dX1_init_70 : decode cX1_init 70 = .ok (.getfield 19, 3) := by decide +kernel
theorem dX1_init_73 : decode cX1_init 73 = .ok (.iload_n 1, 1) := by decide +kernel
theorem dX1_init_74 : decode cX1_init 74 = .ok (.new 17, 3) := by decide +kernel
theorem dX1_init_77 : decode cX1_init 77 = .ok (.dup, 1) := by decide +kernel
theorem dX1_init_78 : decode cX1_init 78 = .ok (.iload_n 1, 1) := by decide +kernel
theorem dX1_init_79 : decode cX1_init 79 = .ok (.invokespecial 32, 3) := by decide +kernel
theorem dX1_init_82 : decode cX1_init 82 = .ok (.aastore, 1) := by decide +kernel
theorem dX1_init_83 : decode cX1_init 83 = .ok (.iinc 1 1, 3) := by decide +kernel
theorem dX1_init_86 : decode cX1_init 86 = .ok (.goto (-23), 3) := by decide +kernel
theorem dX1_init_89 : decode cX1_init 89 = .ok (.iconst 0, 1) := by decide +kernel
theorem dX1_init_90 : decode cX1_init 90 = .ok (.istore_n 1, 1) := by decide +kernel
theorem dX1_init_91 : decode cX1_init 91 = .ok (.iload_n 1, 1) := by decide +kernel
theorem dX1_init_92 : decode cX1_init 92 = .ok (.bipush 50, 2) := by decide +kernel
theorem dX1_init_94 : decode cX1_init 94 = .ok (.if_icmp .ge 22, 3) := by decide +kernel
theorem dX1_init_97 : decode cX1_init 97 = .ok (.aload_n 0, 1) := by decide +kernel
theorem dX1_init_98 : decode cX1_init 98 = .ok (.getfield 25, 3) := by decide +kernel
theorem dX1_init_101 : decode cX1_init 101 = .ok (.iload_n 1, 1) := by decide +kernel
theorem dX1_init_102 : decode cX1_init 102 = .ok (.new 23, 3) := by decide +kernel
theorem dX1_init_105 : decode cX1_init 105 = .ok (.dup, 1) := by decide +kernel
theorem dX1_init_106 : decode cX1_init 106 = .ok (.invokespecial 33, 3) := by decide +kernel
theorem dX1_init_109 : decode cX1_init 109 = .ok (.aastore, 1) := by decide +kernel
theorem dX1_init_110 : decode cX1_init 110 = .ok (.iinc 1 1, 3) := by decide +kernel
theorem dX1_init_113 : decode cX1_init 113 = .ok (.goto (-22), 3) := by decide +kernel
theorem dX1_init_116 : decode cX1_init 116 = .ok (.return_, 1) := by decide +kernel
theorem dX1_copyFrom_0 : decode cX1_copyFrom 0 = .ok (.iconst 0, 1) := by decide +kernel
theorem dX1_copyFrom_1 : decode cX1_copyFrom 1 = .ok (.istore_n 2, 1) := by decide +kernel
theorem dX1_copyFrom_2 : decode cX1_copyFrom 2 = .ok (.iload_n 2, 1) := by decide +kernel
theorem dX1_copyFrom_3 : decode cX1_copyFrom 3 = .ok (.bipush 10, 2) := by decide +kernel
theorem dX1_copyFrom_5 : decode cX1_copyFrom 5 = .ok (.if_icmp .ge 24, 3) := by decide +kernel
theorem dX1_copyFrom_8 : decode cX1_copyFrom 8 = .ok (.aload_n 0, 1) := by decide +kernel
theorem dX1_copyFrom_9 : decode cX1_copyFrom 9 = .ok (.getfield 11, 3) := by decide +kernel
theorem dX1_copyFrom_12 : decode cX1_copyFrom 12 = .ok (.iload_n 2, 1) := by decide +kernel
theorem dX1_copyFrom_13 : decode cX1_copyFrom 13 = .ok (.aaload, 1) := by decide +kernel
theorem dX1_copyFrom_14 : decode cX1_copyFrom 14 = .ok (.aload_n 1, 1) := by decide +kernel
theorem dX1_copyFrom_15 : decode cX1_copyFrom 15 = .ok (.getfield 11, 3) := by decide +kernel
theorem dX1_copyFrom_18 : decode cX1_copyFrom 18 = .ok (.iload_n 2, 1) := by decide +kernel
theorem dX1_copyFrom_19 : decode cX1_copyFrom 19 = .ok (.aaload, 1) := by decide +kernel
theorem dX1_copyFrom_20 : decode cX1_copyFrom 20 = .ok (.invokevirtual 34, 3) := by decide +kernel
theorem dX1_copyFrom_23 : decode cX1_copyFrom 23 = .ok (.iinc 2 1, 3) := by decide +kernel
theorem dX1_copyFrom_26 : decode cX1_copyFrom 26 = .ok (.goto (-24), 3) := by decide +kernel
theorem dX1_copyFrom_29 : decode cX1_copyFrom 29 = .ok (.iconst 0, 1) := by decide +kernel
theorem dX1_copyFrom_30 : decode cX1_copyFrom 30 = .ok (.istore_n 2, 1) := by decide +kernel
theorem dX1_copyFrom_31 : decode cX1_copyFrom 31 = .ok (.iload_n 2, 1) := by decide +kernel
theorem dX1_copyFrom_32 : decode cX1_copyFrom 32 = .ok (.aload_n 1, 1) := by decide +kernel
theorem dX1_copyFrom_33 : decode cX1_copyFrom 33 = .ok (.getfield 38, 3) := by decide +kernel
theorem dX1_copyFrom_36 : decode cX1_copyFrom 36 = .ok (.if_icmp .ge 24, 3) := by decide +kernel
theorem dX1_copyFrom_39 : decode cX1_copyFrom 39 = .ok (.aload_n 0, 1) := by decide +kernel
theorem dX1_copyFrom_40 : decode cX1_copyFrom 40 = .ok (.getfield 19, 3) := by decide +kernel
theorem dX1_copyFrom_43 : decode cX1_copyFrom 43 = .ok (.iload_n 2, 1) := by decide +kernel
theorem dX1_copyFrom_44 : decode cX1_copyFrom 44 = .ok (.aaload, 1) := by decide +kernel
theorem dX1_copyFrom_45 : decode cX1_copyFrom 45 = .ok (.aload_n 1, 1) := by decide +kernel
theorem dX1_copyFrom_46 : decode cX1_copyFrom 46 = .ok (.getfield 19, 3) := by decide +kernel
theorem dX1_copyFrom_49 : decode cX1_copyFrom 49 = .ok (.iload_n 2, 1) := by decide +kernel
theorem dX1_copyFrom_50 : decode cX1_copyFrom 50 = .ok (.aaload, 1) := by decide +kernel
theorem dX1_copyFrom_51 : decode cX1_copyFrom 51 = .ok (.invokevirtual 42, 3) := by decide +kernel
theorem dX1_copyFrom_54 : decode cX1_copyFrom 54 = .ok (.iinc 2 1, 3) := by decide +kernel
theorem dX1_copyFrom_57 : decode cX1_copyFrom 57 = .ok (.goto (-26), 3) := by decide +kernel
theorem dX1_copyFrom_60 : decode cX1_copyFrom 60 = .ok (.iconst 0, 1) := by decide +kernel
theorem dX1_copyFrom_61 : decode cX1_copyFrom 61 = .ok (.istore_n 2, 1) := by decide +kernel
theorem dX1_copyFrom_62 : decode cX1_copyFrom 62 = .ok (.iload_n 2, 1) := by decide +kernel
theorem dX1_copyFrom_63 : decode cX1_copyFrom 63 = .ok (.aload_n 1, 1) := by decide +kernel
theorem dX1_copyFrom_64 : decode cX1_copyFrom 64 = .ok (.getfield 45, 3) := by decide +kernel
theorem dX1_copyFrom_67 : decode cX1_copyFrom 67 = .ok (.if_icmp .ge 24, 3) := by decide +kernel
theorem dX1_copyFrom_70 : decode cX1_copyFrom 70 = .ok (.aload_n 0, 1) := by decide +kernel
theorem dX1_copyFrom_71 : decode cX1_copyFrom 71 = .ok (.getfield 25, 3) := by decide +kernel
theorem dX1_copyFrom_74 : decode cX1_copyFrom 74 = .ok (.iload_n 2, 1) := by decide +kernel
theorem dX1_copyFrom_75 : decode cX1_copyFrom 75 = .ok (.aaload, 1) := by decide +kernel
theorem dX1_copyFrom_76 : decode cX1_copyFrom 76 = .ok (.aload_n 1, 1) := by decide +kernel
theorem dX1_copyFrom_77 : decode cX1_copyFrom 77 = .ok (.getfield 25, 3) := by decide +kernel
theorem dX1_copyFrom_80 : decode cX1_copyFrom 80 = .ok (.iload_n 2, 1) := by decide +kernel
theorem dX1_copyFrom_81 : decode cX1_copyFrom 81 = .ok (.aaload, 1) := by decide +kernel
theorem dX1_copyFrom_82 : decode cX1_copyFrom 82 = .ok (.invokevirtual 48, 3) := by decide +kernel
theorem dX1_copyFrom_85 : decode cX1_copyFrom 85 = .ok (.iinc 2 1, 3) := by decide +kernel
theorem dX1_copyFrom_88 : decode cX1_copyFrom 88 = .ok (.goto (-26), 3) := by decide +kernel
theorem dX1_copyFrom_91 : decode cX1_copyFrom 91 = .ok (.aload_n 0, 1) := by decide +kernel
theorem dX1_copyFrom_92 : decode cX1_copyFrom 92 = .ok (.aload_n 1, 1) := by decide +kernel
theorem dX1_copyFrom_93 : decode cX1_copyFrom 93 = .ok (.getfield 38, 3) := by decide +kernel
theorem dX1_copyFrom_96 : decode cX1_copyFrom 96 = .ok (.putfield 38, 3) := by decide +kernel
theorem dX1_copyFrom_99 : decode cX1_copyFrom 99 = .ok (.aload_n 0, 1) := by decide +kernel
theorem dX1_copyFrom_100 : decode cX1_copyFrom 100 = .ok (.aload_n 1, 1) := by decide +kernel
theorem dX1_copyFrom_101 : decode cX1_copyFrom 101 = .ok (.getfield 45, 3) := by decide +kernel
theorem dX1_copyFrom_104 : decode cX1_copyFrom 104 = .ok (.putfield 45, 3) := by decide +kernel
theorem dX1_copyFrom_107 : decode cX1_copyFrom 107 = .ok (.aload_n 0, 1) := by decide +kernel
theorem dX1_copyFrom_108 : decode cX1_copyFrom 108 = .ok (.aload_n 1, 1) := by decide +kernel
theorem dX1_copyFrom_109 : decode cX1_copyFrom 109 = .ok (.getfield 51, 3) := by decide +kernel
theorem dX1_copyFrom_112 : decode cX1_copyFrom 112 = .ok (.putfield 51, 3) := by decide +kernel
theorem dX1_copyFrom_115 : decode cX1_copyFrom 115 = .ok (.aload_n 0, 1) := by decide +kernel
theorem dX1_copyFrom_116 : decode cX1_copyFrom 116 = .ok (.aload_n 1, 1) := by decide +kernel
theorem dX1_copyFrom_117 : decode cX1_copyFrom 117 = .ok (.getfield 54, 3) := by decide +kernel
theorem dX1_copyFrom_120 : decode cX1_copyFrom 120 = .ok (.putfield 54, 3) := by decide +kernel
theorem dX1_copyFrom_123 : decode cX1_copyFrom 123 = .ok (.return_, 1) := by decide +kernel
theorem dX1_stopAt_0 : decode cX1_stopAt 0 = .ok (.iload_n 1, 1) := by decide +kernel
theorem dX1_stopAt_1 : decode cX1_stopAt 1 = .ok (.bipush 10, 2) := by decide +kernel
theorem dX1_stopAt_3 : decode cX1_stopAt 3 = .ok (.irem, 1) := by decide +kernel
theorem dX1_stopAt_4 : decode cX1_stopAt 4 = .ok (.istore_n 2, 1) := by decide +kernel
theorem dX1_stopAt_5 : decode cX1_stopAt 5 = .ok (.aload_n 0, 1) := by decide +kernel
theorem dX1_stopAt_6 : decode cX1_stopAt 6 = .ok (.getfield 11, 3) := by decide +kernel
theorem dX1_stopAt_9 : decode cX1_stopAt 9 = .ok (.iload_n 2, 1) := by decide +kernel
theorem dX1_stopAt_10 : decode cX1_stopAt 10 = .ok (.ifCond .ge 10, 3) := by decide +kernel
theorem dX1_stopAt_13 : decode cX1_stopAt 13 = .ok (.iload_n 2, 1) := by decide +kernel
theorem dX1_stopAt_14 : decode cX1_stopAt 14 = .ok (.bipush 10, 2) := by decide +kernel
theorem dX1_stopAt_16 : decode cX1_stopAt 16 = .ok (.iadd, 1) := by decide +kernel
theorem dX1_stopAt_17 : decode cX1_stopAt 17 = .ok (.goto 4, 3) := by decide +kernel
theorem dX1_stopAt_20 : decode cX1_stopAt 20 = .ok (.iload_n 2, 1) := by decide +kernel
theorem dX1_stopAt_21 : decode cX1_stopAt 21 = .ok (.aaload, 1) := by decide +kernel
theorem dX1_stopAt_22 : decode cX1_stopAt 22 = .ok (.areturn, 1) := by decide +kernel
theorem dX1_addBus_0 : decode cX1_addBus 0 = .ok (.aload_n 0, 1) := by decide +kernel
theorem dX1_addBus_1 : decode cX1_addBus 1 = .ok (.getfield 19, 3) := by decide +kernel
theorem dX1_addBus_4 : decode cX1_addBus 4 = .ok (.aload_n 0, 1) := by decide +kernel
theorem dX1_addBus_5 : decode cX1_addBus 5 = .ok (.getfield 38, 3) := by decide +kernel
theorem dX1_addBus_8 : decode cX1_addBus 8 = .ok (.aaload, 1) := by decide +kernel
theorem dX1_addBus_9 : decode cX1_addBus 9 = .ok (.astore_n 3, 1) := by decide +kernel
theorem dX1_addBus_10 : decode cX1_addBus 10 = .ok (.aload_n 3, 1) := by decide +kernel
theorem dX1_addBus_11 : decode cX1_addBus 11 = .ok (.iload_n 1, 1) := by decide +kernel
theorem dX1_addBus_12 : decode cX1_addBus 12 = .ok (.putfield 57, 3) := by decide +kernel
theorem dX1_addBus_15 : decode cX1_addBus 15 = .ok (.aload_n 3, 1) := by decide +kernel
theorem dX1_addBus_16 : decode cX1_addBus 16 = .ok (.iconst 1, 1) := by decide +kernel
theorem dX1_addBus_17 : decode cX1_addBus 17 = .ok (.putfield 60, 3) := by decide +kernel
theorem dX1_addBus_20 : decode cX1_addBus 20 = .ok (.aload_n 3, 1) := by decide +kernel
theorem dX1_addBus_21 : decode cX1_addBus 21 = .ok (.iload_n 2, 1) := by decide +kernel
theorem dX1_addBus_22 : decode cX1_addBus 22 = .ok (.putfield 63, 3) := by decide +kernel
theorem dX1_addBus_25 : decode cX1_addBus 25 = .ok (.aload_n 0, 1) := by decide +kernel
theorem dX1_addBus_26 : decode cX1_addBus 26 = .ok (.dup, 1) := by decide +kernel
theorem dX1_addBus_27 : decode cX1_addBus 27 = .ok (.getfield 38, 3) := by decide +kernel
theorem dX1_addBus_30 : decode cX1_addBus 30 = .ok (.iconst 1, 1) := by decide +kernel
theorem dX1_addBus_31 : decode cX1_addBus 31 = .ok (.iadd, 1) := by decide +kernel
theorem dX1_addBus_32 : decode cX1_addBus 32 = .ok (.putfield 38, 3) := by decide +kernel
theorem dX1_addBus_35 : decode cX1_addBus 35 = .ok (.aload_n 3, 1) := by decide +kernel
theorem dX1_addBus_36 : decode cX1_addBus 36 = .ok (.getfield 66, 3) := by decide +kernel
theorem dX1_addBus_39 : decode cX1_addBus 39 = .ok (.ireturn, 1) := by decide +kernel
theorem dX1_addPassenger_0 : decode cX1_addPassenger 0 = .ok (.aload_n 0, 1) := by decide +kernel
theorem dX1_addPassenger_1 : decode cX1_addPassenger 1 = .ok (.getfield 25, 3) := by decide +kernel
theorem dX1_addPassenger_4 : decode cX1_addPassenger 4 = .ok (.aload_n 0, 1) := by decide +kernel
theorem dX1_addPassenger_5 : decode cX1_addPassenger 5 = .ok (.getfield 45, 3) := by decide +kernel
theorem dX1_addPassenger_8 : decode cX1_addPassenger 8 = .ok (.aaload, 1) := by decide +kernel
theorem dX1_addPassenger_9 : decode cX1_addPassenger 9 = .ok (.astore_n 3, 1) := by decide +kernel
theorem dX1_addPassenger_10 : decode cX1_addPassenger 10 = .ok (.aload_n 3, 1) := by decide +kernel
theorem dX1_addPassenger_11 : decode cX1_addPassenger 11 = .ok (.iload_n 1, 1) := by decide +kernel
theorem dX1_addPassenger_12 : decode cX1_addPassenger 12 = .ok (.putfield 69, 3) := by decide +kernel
theorem dX1_addPassenger_15 : decode cX1_addPassenger 15 = .ok (.aload_n 3, 1) := by decide +kernel
theorem dX1_addPassenger_16 : decode cX1_addPassenger 16 = .ok (.iload_n 2, 1) := by decide +kernel
theorem dX1_addPassenger_17 : decode cX1_addPassenger 17 = .ok (.putfield 70, 3) := by decide +kernel
theorem dX1_addPassenger_20 : decode cX1_addPassenger 20 = .ok (.aload_n 0, 1) := by decide +kernel
theorem dX1_addPassenger_21 : decode cX1_addPassenger 21 = .ok (.dup, 1) := by decide +kernel
theorem dX1_addPassenger_22 : decode cX1_addPassenger 22 = .ok (.getfield 45, 3) := by decide +kernel
theorem dX1_addPassenger_25 : decode cX1_addPassenger 25 = .ok (.iconst 1, 1) := by decide +kernel
theorem dX1_addPassenger_26 : decode cX1_addPassenger 26 = .ok (.iadd, 1) := by decide +kernel
theorem dX1_addPassenger_27 : decode cX1_addPassenger 27 = .ok (.putfield 45, 3) := by decide +kernel
theorem dX1_addPassenger_30 : decode cX1_addPassenger 30 = .ok (.aload_n 0, 1) := by decide +kernel
theorem dX1_addPassenger_31 : decode cX1_addPassenger 31 = .ok (.getfield 45, 3) := by decide +kernel
theorem dX1_addPassenger_34 : decode cX1_addPassenger 34 = .ok (.iconst 1, 1) := by decide +kernel
theorem dX1_addPassenger_35 : decode cX1_addPassenger 35 = .ok (.isub, 1) := by decide +kernel
theorem dX1_addPassenger_36 : decode cX1_addPassenger 36 = .ok (.ireturn, 1) := by decide +kernel
theorem dX1_fareBetween_0 : decode cX1_fareBetween 0 = .ok (.iload_n 1, 1) := by decide +kernel
theorem dX1_fareBetween_1 : decode cX1_fareBetween 1 = .ok (.iload_n 2, 1) := by decide +kernel
theorem dX1_fareBetween_2 : decode cX1_fareBetween 2 = .ok (.if_icmp .ne 5, 3) := by decide +kernel
theorem dX1_fareBetween_5 : decode cX1_fareBetween 5 = .ok (.iconst 0, 1) := by decide +kernel
theorem dX1_fareBetween_6 : decode cX1_fareBetween 6 = .ok (.ireturn, 1) := by decide +kernel
theorem dX1_fareBetween_7 : decode cX1_fareBetween 7 = .ok (.iconst 2, 1) := by decide +kernel
theorem dX1_fareBetween_8 : decode cX1_fareBetween 8 = .ok (.istore_n 3, 1) := by decide +kernel
theorem dX1_fareBetween_9 : decode cX1_fareBetween 9 = .ok (.iload_n 1, 1) := by decide +kernel
theorem dX1_fareBetween_10 : decode cX1_fareBetween 10 = .ok (.iload_n 2, 1) := by decide +kernel
theorem dX1_fareBetween_11 : decode cX1_fareBetween 11 = .ok (.if_icmp .ge 7, 3) := by decide +kernel
theorem dX1_fareBetween_14 : decode cX1_fareBetween 14 = .ok (.iload_n 2, 1) := by decide +kernel
theorem dX1_fareBetween_15 : decode cX1_fareBetween 15 = .ok (.goto 7, 3) := by decide +kernel
theorem dX1_fareBetween_18 : decode cX1_fareBetween 18 = .ok (.iload_n 2, 1) := by decide +kernel
theorem dX1_fareBetween_19 : decode cX1_fareBetween 19 = .ok (.bipush 10, 2) := by decide +kernel
theorem dX1_fareBetween_21 : decode cX1_fareBetween 21 = .ok (.iadd, 1) := by decide +kernel
theorem dX1_fareBetween_22 : decode cX1_fareBetween 22 = .ok (.istore 4, 2) := by decide +kernel
theorem dX1_fareBetween_24 : decode cX1_fareBetween 24 = .ok (.iload_n 1, 1) := by decide +kernel
theorem dX1_fareBetween_25 : decode cX1_fareBetween 25 = .ok (.istore 5, 2) := by decide +kernel
theorem dX1_fareBetween_27 : decode cX1_fareBetween 27 = .ok (.iload 5, 2) := by decide +kernel
theorem dX1_fareBetween_29 : decode cX1_fareBetween 29 = .ok (.iload 4, 2) := by decide +kernel
theorem dX1_fareBetween_31 : decode cX1_fareBetween 31 = .ok (.if_icmp .ge 35, 3) := by decide +kernel
theorem dX1_fareBetween_34 : decode cX1_fareBetween 34 = .ok (.aload_n 0, 1) := by decide +kernel
theorem dX1_fareBetween_35 : decode cX1_fareBetween 35 = .ok (.iload 5, 2) := by decide +kernel
theorem dX1_fareBetween_37 : decode cX1_fareBetween 37 = .ok (.invokevirtual 73, 3) := by decide +kernel
theorem dX1_fareBetween_40 : decode cX1_fareBetween 40 = .ok (.getfield 77, 3) := by decide +kernel
theorem dX1_fareBetween_43 : decode cX1_fareBetween 43 = .ok (.aload_n 0, 1) := by decide +kernel
theorem dX1_fareBetween_44 : decode cX1_fareBetween 44 = .ok (.iload 5, 2) := by decide +kernel
theorem dX1_fareBetween_46 : decode cX1_fareBetween 46 = .ok (.iconst 1, 1) := by decide +kernel
theorem dX1_fareBetween_47 : decode cX1_fareBetween 47 = .ok (.iadd, 1) := by decide +kernel
theorem dX1_fareBetween_48 : decode cX1_fareBetween 48 = .ok (.invokevirtual 73, 3) := by decide +kernel
theorem dX1_fareBetween_51 : decode cX1_fareBetween 51 = .ok (.getfield 77, 3) := by decide +kernel
theorem dX1_fareBetween_54 : decode cX1_fareBetween 54 = .ok (.if_icmp .eq 6, 3) := by decide +kernel
theorem dX1_fareBetween_57 : decode cX1_fareBetween 57 = .ok (.iinc 3 1, 3) := by decide +kernel
theorem dX1_fareBetween_60 : decode cX1_fareBetween 60 = .ok (.iinc 5 1, 3) := by decide +kernel
theorem dX1_fareBetween_63 : decode cX1_fareBetween 63 = .ok (.goto (-36), 3) := by decide +kernel
theorem dX1_fareBetween_66 : decode cX1_fareBetween 66 = .ok (.iload_n 3, 1) := by decide +kernel
theorem dX1_fareBetween_67 : decode cX1_fareBetween 67 = .ok (.ireturn, 1) := by decide +kernel
theorem dX1_passMinutes_0 : decode cX1_passMinutes 0 = .ok (.iconst 0, 1) := by decide +kernel
theorem dX1_passMinutes_1 : decode cX1_passMinutes 1 = .ok (.istore_n 2, 1) := by decide +kernel
theorem dX1_passMinutes_2 : decode cX1_passMinutes 2 = .ok (.iload_n 2, 1) := by decide +kernel
theorem dX1_passMinutes_3 : decode cX1_passMinutes 3 = .ok (.iload_n 1, 1) := by decide +kernel
theorem dX1_passMinutes_4 : decode cX1_passMinutes 4 = .ok (.if_icmp .ge 13, 3) := by decide +kernel
theorem dX1_passMinutes_7 : decode cX1_passMinutes 7 = .ok (.aload_n 0, 1) := by decide +kernel
theorem dX1_passMinutes_8 : decode cX1_passMinutes 8 = .ok (.invokevirtual 80, 3) := by decide +kernel
theorem dX1_passMinutes_11 : decode cX1_passMinutes 11 = .ok (.iinc 2 1, 3) := by decide +kernel
theorem dX1_passMinutes_14 : decode cX1_passMinutes 14 = .ok (.goto (-12), 3) := by decide +kernel
theorem dX1_passMinutes_17 : decode cX1_passMinutes 17 = .ok (.return_, 1) := by decide +kernel
theorem dX1_passMinute_0 : decode cX1_passMinute 0 = .ok (.iconst 0, 1) := by decide +kernel
theorem dX1_passMinute_1 : decode cX1_passMinute 1 = .ok (.istore_n 1, 1) := by decide +kernel
theorem dX1_passMinute_2 : decode cX1_passMinute 2 = .ok (.iload_n 1, 1) := by decide +kernel
theorem dX1_passMinute_3 : decode cX1_passMinute 3 = .ok (.aload_n 0, 1) := by decide +kernel
theorem dX1_passMinute_4 : decode cX1_passMinute 4 = .ok (.getfield 38, 3) := by decide +kernel
theorem dX1_passMinute_7 : decode cX1_passMinute 7 = .ok (.if_icmp .ge 36, 3) := by decide +kernel
theorem dX1_passMinute_10 : decode cX1_passMinute 10 = .ok (.aload_n 0, 1) := by decide +kernel
theorem dX1_passMinute_11 : decode cX1_passMinute 11 = .ok (.getfield 19, 3) := by decide +kernel
theorem dX1_passMinute_14 : decode cX1_passMinute 14 = .ok (.iload_n 1, 1) := by decide +kernel
theorem dX1_passMinute_15 : decode cX1_passMinute 15 = .ok (.aaload, 1) := by decide +kernel
theorem dX1_passMinute_16 : decode cX1_passMinute 16 = .ok (.astore_n 2, 1) := by decide +kernel
theorem dX1_passMinute_17 : decode cX1_passMinute 17 = .ok (.aload_n 2, 1) := by decide +kernel
theorem dX1_passMinute_18 : decode cX1_passMinute 18 = .ok (.getfield 83, 3) := by decide +kernel
theorem dX1_passMinute_21 : decode cX1_passMinute 21 = .ok (.ifCond .eq 11, 3) := by decide +kernel
theorem dX1_passMinute_24 : decode cX1_passMinute 24 = .ok (.aload_n 0, 1) := by decide +kernel
theorem dX1_passMinute_25 : decode cX1_passMinute 25 = .ok (.aload_n 2, 1) := by decide +kernel
theorem dX1_passMinute_26 : decode cX1_passMinute 26 = .ok (.invokevirtual 87, 3) := by decide +kernel
theorem dX1_passMinute_29 : decode cX1_passMinute 29 = .ok (.goto 8, 3) := by decide +kernel
theorem dX1_passMinute_32 : decode cX1_passMinute 32 = .ok (.aload_n 0, 1) := by decide +kernel
theorem dX1_passMinute_33 : decode cX1_passMinute 33 = .ok (.aload_n 2, 1) := by decide +kernel
theorem dX1_passMinute_34 : decode cX1_passMinute 34 = .ok (.invokevirtual 90, 3) := by decide +kernel
theorem dX1_passMinute_37 : decode cX1_passMinute 37 = .ok (.iinc 1 1, 3) := by decide +kernel
theorem dX1_passMinute_40 : decode cX1_passMinute 40 = .ok (.goto (-38), 3) := by decide +kernel
theorem dX1_passMinute_43 : decode cX1_passMinute 43 = .ok (.iconst 0, 1) := by decide +kernel
theorem dX1_passMinute_44 : decode cX1_passMinute 44 = .ok (.istore_n 1, 1) := by decide +kernel
theorem dX1_passMinute_45 : decode cX1_passMinute 45 = .ok (.iload_n 1, 1) := by decide +kernel
theorem dX1_passMinute_46 : decode cX1_passMinute 46 = .ok (.aload_n 0, 1) := by decide +kernel
theorem dX1_passMinute_47 : decode cX1_passMinute 47 = .ok (.getfield 45, 3) := by decide +kernel
theorem dX1_passMinute_50 : decode cX1_passMinute 50 = .ok (.if_icmp .ge 36, 3) := by decide +kernel
theorem dX1_passMinute_53 : decode cX1_passMinute 53 = .ok (.aload_n 0, 1) := by decide +kernel
theorem dX1_passMinute_54 : decode cX1_passMinute 54 = .ok (.getfield 25, 3) := by decide +kernel
theorem dX1_passMinute_57 : decode cX1_passMinute 57 = .ok (.iload_n 1, 1) := by decide +kernel
theorem dX1_passMinute_58 : decode cX1_passMinute 58 = .ok (.aaload, 1) := by decide +kernel
theorem dX1_passMinute_59 : decode cX1_passMinute 59 = .ok (.getfield 93, 3) := by decide +kernel
theorem dX1_passMinute_62 : decode cX1_passMinute 62 = .ok (.ifCond .ne 18, 3) := by decide +kernel
theorem dX1_passMinute_65 : decode cX1_passMinute 65 = .ok (.aload_n 0, 1) := by decide +kernel
theorem dX1_passMinute_66 : decode cX1_passMinute 66 = .ok (.getfield 25, 3) := by decide +kernel
theorem dX1_passMinute_69 : decode cX1_passMinute 69 = .ok (.iload_n 1, 1) := by decide +kernel
theorem dX1_passMinute_70 : decode cX1_passMinute 70 = .ok (.aaload, 1) := by decide +kernel
theorem dX1_passMinute_71 : decode cX1_passMinute 71 = .ok (.dup, 1) := by decide +kernel
theorem dX1_passMinute_72 : decode cX1_passMinute 72 = .ok (.getfield 96, 3) := by decide +kernel
theorem dX1_passMinute_75 : decode cX1_passMinute 75 = .ok (.iconst 1, 1) := by decide +kernel
theorem dX1_passMinute_76 : decode cX1_passMinute 76 = .ok (.iadd, 1) := by decide +kernel
theorem dX1_passMinute_77 : decode cX1_passMinute 77 = .ok (.putfield 96, 3) := by decide +kernel
theorem dX1_passMinute_80 : decode cX1_passMinute 80 = .ok (.iinc 1 1, 3) := by decide +kernel
theorem dX1_passMinute_83 : decode cX1_passMinute 83 = .ok (.goto (-38), 3) := by decide +kernel
theorem dX1_passMinute_86 : decode cX1_passMinute 86 = .ok (.aload_n 0, 1) := by decide +kernel
theorem dX1_passMinute_87 : decode cX1_passMinute 87 = .ok (.dup, 1) := by decide +kernel
theorem dX1_passMinute_88 : decode cX1_passMinute 88 = .ok (.getfield 51, 3) := by decide +kernel
theorem dX1_passMinute_91 : decode cX1_passMinute 91 = .ok (.iconst 1, 1) := by decide +kernel
theorem dX1_passMinute_92 : decode cX1_passMinute 92 = .ok (.iadd, 1) := by decide +kernel
theorem dX1_passMinute_93 : decode cX1_passMinute 93 = .ok (.putfield 51, 3) := by decide +kernel
theorem dX1_passMinute_96 : decode cX1_passMinute 96 = .ok (.return_, 1) := by decide +kernel
theorem dX1_driveOn_0 : decode cX1_driveOn 0 = .ok (.aload_n 1, 1) := by decide +kernel
theorem dX1_driveOn_1 : decode cX1_driveOn 1 = .ok (.dup, 1) := by decide +kernel
theorem dX1_driveOn_2 : decode cX1_driveOn 2 = .ok (.getfield 60, 3) := by decide +kernel
theorem dX1_driveOn_5 : decode cX1_driveOn 5 = .ok (.iconst 1, 1) := by decide +kernel
theorem dX1_driveOn_6 : decode cX1_driveOn 6 = .ok (.isub, 1) := by decide +kernel
theorem dX1_driveOn_7 : decode cX1_driveOn 7 = .ok (.putfield 60, 3) := by decide +kernel
theorem dX1_driveOn_10 : decode cX1_driveOn 10 = .ok (.aload_n 1, 1) := by decide +kernel
theorem dX1_driveOn_11 : decode cX1_driveOn 11 = .ok (.getfield 60, 3) := by decide +kernel
theorem dX1_driveOn_14 : decode cX1_driveOn 14 = .ok (.ifCond .le 4, 3) := by decide +kernel
theorem dX1_driveOn_17 : decode cX1_driveOn 17 = .ok (.return_, 1) := by decide +kernel
theorem dX1_driveOn_18 : decode cX1_driveOn 18 = .ok (.aload_n 1, 1) := by decide +kernel
theorem dX1_driveOn_19 : decode cX1_driveOn 19 = .ok (.aload_n 1, 1) := by decide +kernel
theorem dX1_driveOn_20 : decode cX1_driveOn 20 = .ok (.getfield 57, 3) := by decide +kernel
theorem dX1_driveOn_23 : decode cX1_driveOn 23 = .ok (.iconst 1, 1) := by decide +kernel
theorem dX1_driveOn_24 : decode cX1_driveOn 24 = .ok (.iadd, 1) := by decide +kernel
theorem dX1_driveOn_25 : decode cX1_driveOn 25 = .ok (.bipush 10, 2) := by decide +kernel
theorem dX1_driveOn_27 : decode cX1_driveOn 27 = .ok (.irem, 1) := by decide +kernel
theorem dX1_driveOn_28 : decode cX1_driveOn 28 = .ok (.putfield 57, 3) := by decide +kernel
theorem dX1_driveOn_31 : decode cX1_driveOn 31 = .ok (.aload_n 1, 1) := by decide +kernel
theorem dX1_driveOn_32 : decode cX1_driveOn 32 = .ok (.iconst 0, 1) := by decide +kernel
theorem dX1_driveOn_33 : decode cX1_driveOn 33 = .ok (.putfield 83, 3) := by decide +kernel
theorem dX1_driveOn_36 : decode cX1_driveOn 36 = .ok (.aload_n 0, 1) := by decide +kernel
theorem dX1_driveOn_37 : decode cX1_driveOn 37 = .ok (.aload_n 1, 1) := by decide +kernel
theorem dX1_driveOn_38 : decode cX1_driveOn 38 = .ok (.invokevirtual 99, 3) := by decide +kernel
theorem dX1_driveOn_41 : decode cX1_driveOn 41 = .ok (.istore_n 2, 1) := by decide +kernel
theorem dX1_driveOn_42 : decode cX1_driveOn 42 = .ok (.aload_n 0, 1) := by decide +kernel
theorem dX1_driveOn_43 : decode cX1_driveOn 43 = .ok (.aload_n 1, 1) := by decide +kernel
theorem dX1_driveOn_44 : decode cX1_driveOn 44 = .ok (.invokevirtual 103, 3) := by decide +kernel
theorem dX1_driveOn_47 : decode cX1_driveOn 47 = .ok (.istore_n 3, 1) := by decide +kernel
theorem dX1_driveOn_48 : decode cX1_driveOn 48 = .ok (.aload_n 1, 1) := by decide +kernel
theorem dX1_driveOn_49 : decode cX1_driveOn 49 = .ok (.iconst 1, 1) := by decide +kernel
theorem dX1_driveOn_50 : decode cX1_driveOn 50 = .ok (.iload_n 3, 1) := by decide +kernel
theorem dX1_driveOn_51 : decode cX1_driveOn 51 = .ok (.iconst 2, 1) := by decide +kernel
theorem dX1_driveOn_52 : decode cX1_driveOn 52 = .ok (.idiv, 1) := by decide +kernel
theorem dX1_driveOn_53 : decode cX1_driveOn 53 = .ok (.iadd, 1) := by decide +kernel
theorem dX1_driveOn_54 : decode cX1_driveOn 54 = .ok (.iload_n 2, 1) := by decide +kernel
theorem dX1_driveOn_55 : decode cX1_driveOn 55 = .ok (.iconst 4, 1) := by decide +kernel
theorem dX1_driveOn_56 : decode cX1_driveOn 56 = .ok (.idiv, 1) := by decide +kernel
theorem dX1_driveOn_57 : decode cX1_driveOn 57 = .ok (.iadd, 1) := by decide +kernel
theorem dX1_driveOn_58 : decode cX1_driveOn 58 = .ok (.putfield 60, 3) := by decide +kernel
theorem dX1_driveOn_61 : decode cX1_driveOn 61 = .ok (.return_, 1) := by decide +kernel
theorem dX1_standOn_0 : decode cX1_standOn 0 = .ok (.aload_n 1, 1) := by decide +kernel
theorem dX1_standOn_1 : decode cX1_standOn 1 = .ok (.getfield 60, 3) := by decide +kernel
theorem dX1_standOn_4 : decode cX1_standOn 4 = .ok (.ifCond .le 13, 3) := by decide +kernel
theorem dX1_standOn_7 : decode cX1_standOn 7 = .ok (.aload_n 1, 1) := by decide +kernel
theorem dX1_standOn_8 : decode cX1_standOn 8 = .ok (.dup, 1) := by decide +kernel
theorem dX1_standOn_9 : decode cX1_standOn 9 = .ok (.getfield 60, 3) := by decide +kernel
theorem dX1_standOn_12 : decode cX1_standOn 12 = .ok (.iconst 1, 1) := by decide +kernel
theorem dX1_standOn_13 : decode cX1_standOn 13 = .ok (.isub, 1) := by decide +kernel
theorem dX1_standOn_14 : decode cX1_standOn 14 = .ok (.putfield 60, 3) := by decide +kernel
theorem dX1_standOn_17 : decode cX1_standOn 17 = .ok (.aload_n 0, 1) := by decide +kernel
theorem dX1_standOn_18 : decode cX1_standOn 18 = .ok (.aload_n 1, 1) := by decide +kernel
theorem dX1_standOn_19 : decode cX1_standOn 19 = .ok (.getfield 57, 3) := by decide +kernel
theorem dX1_standOn_22 : decode cX1_standOn 22 = .ok (.invokevirtual 73, 3) := by decide +kernel
theorem dX1_standOn_25 : decode cX1_standOn 25 = .ok (.astore_n 2, 1) := by decide +kernel
theorem dX1_standOn_26 : decode cX1_standOn 26 = .ok (.aload_n 1, 1) := by decide +kernel
theorem dX1_standOn_27 : decode cX1_standOn 27 = .ok (.getfield 60, 3) := by decide +kernel
theorem dX1_standOn_30 : decode cX1_standOn 30 = .ok (.ifCond .ne 39, 3) := by decide +kernel
theorem dX1_standOn_33 : decode cX1_standOn 33 = .ok (.aload_n 2, 1) := by decide +kernel
theorem dX1_standOn_34 : decode cX1_standOn 34 = .ok (.aload_n 0, 1) := by decide +kernel
theorem dX1_standOn_35 : decode cX1_standOn 35 = .ok (.getfield 51, 3) := by decide +kernel
theorem dX1_standOn_38 : decode cX1_standOn 38 = .ok (.aload_n 0, 1) := by decide +kernel
theorem dX1_standOn_39 : decode cX1_standOn 39 = .ok (.getfield 54, 3) := by decide +kernel
theorem dX1_standOn_42 : decode cX1_standOn 42 = .ok (.invokevirtual 106, 3) := by decide +kernel
theorem dX1_standOn_45 : decode cX1_standOn 45 = .ok (.ifCond .eq 24, 3) := by decide +kernel
theorem dX1_standOn_48 : decode cX1_standOn 48 = .ok (.aload_n 2, 1) := by decide +kernel
theorem dX1_standOn_49 : decode cX1_standOn 49 = .ok (.aload_n 0, 1) := by decide +kernel
theorem dX1_standOn_50 : decode cX1_standOn 50 = .ok (.getfield 51, 3) := by decide +kernel
theorem dX1_standOn_53 : decode cX1_standOn 53 = .ok (.putfield 110, 3) := by decide +kernel
theorem dX1_standOn_56 : decode cX1_standOn 56 = .ok (.aload_n 1, 1) := by decide +kernel
theorem dX1_standOn_57 : decode cX1_standOn 57 = .ok (.iconst 1, 1) := by decide +kernel
theorem dX1_standOn_58 : decode cX1_standOn 58 = .ok (.putfield 83, 3) := by decide +kernel
theorem dX1_standOn_61 : decode cX1_standOn 61 = .ok (.aload_n 1, 1) := by decide +kernel
theorem dX1_standOn_62 : decode cX1_standOn 62 = .ok (.aload_n 2, 1) := by decide +kernel
theorem dX1_standOn_63 : decode cX1_standOn 63 = .ok (.getfield 113, 3) := by decide +kernel
theorem dX1_standOn_66 : decode cX1_standOn 66 = .ok (.putfield 60, 3) := by decide +kernel
theorem dX1_standOn_69 : decode cX1_standOn 69 = .ok (.return_, 1) := by decide +kernel
theorem dX1_letOff_0 : decode cX1_letOff 0 = .ok (.iconst 0, 1) := by decide +kernel
theorem dX1_letOff_1 : decode cX1_letOff 1 = .ok (.istore_n 2, 1) := by decide +kernel
theorem dX1_letOff_2 : decode cX1_letOff 2 = .ok (.iconst 0, 1) := by decide +kernel
theorem dX1_letOff_3 : decode cX1_letOff 3 = .ok (.istore_n 3, 1) := by decide +kernel
theorem dX1_letOff_4 : decode cX1_letOff 4 = .ok (.iload_n 3, 1) := by decide +kernel
theorem dX1_letOff_5 : decode cX1_letOff 5 = .ok (.aload_n 0, 1) := by decide +kernel
theorem dX1_letOff_6 : decode cX1_letOff 6 = .ok (.getfield 45, 3) := by decide +kernel
theorem dX1_letOff_9 : decode cX1_letOff 9 = .ok (.if_icmp .ge 42, 3) := by decide +kernel
theorem dX1_letOff_12 : decode cX1_letOff 12 = .ok (.aload_n 0, 1) := by decide +kernel
theorem dX1_letOff_13 : decode cX1_letOff 13 = .ok (.getfield 25, 3) := by decide +kernel
theorem dX1_letOff_16 : decode cX1_letOff 16 = .ok (.iload_n 3, 1) := by decide +kernel
theorem dX1_letOff_17 : decode cX1_letOff 17 = .ok (.aaload, 1) := by decide +kernel
theorem dX1_letOff_18 : decode cX1_letOff 18 = .ok (.aload_n 1, 1) := by decide +kernel
theorem dX1_letOff_19 : decode cX1_letOff 19 = .ok (.getfield 57, 3) := by decide +kernel
theorem dX1_letOff_22 : decode cX1_letOff 22 = .ok (.aload_n 1, 1) := by decide +kernel
theorem dX1_letOff_23 : decode cX1_letOff 23 = .ok (.invokevirtual 116, 3) := by decide +kernel
theorem dX1_letOff_26 : decode cX1_letOff 26 = .ok (.ifCond .eq 19, 3) := by decide +kernel
theorem dX1_letOff_29 : decode cX1_letOff 29 = .ok (.aload_n 0, 1) := by decide +kernel
theorem dX1_letOff_30 : decode cX1_letOff 30 = .ok (.getfield 25, 3) := by decide +kernel
theorem dX1_letOff_33 : decode cX1_letOff 33 = .ok (.iload_n 3, 1) := by decide +kernel
theorem dX1_letOff_34 : decode cX1_letOff 34 = .ok (.aaload, 1) := by decide +kernel
theorem dX1_letOff_35 : decode cX1_letOff 35 = .ok (.aload_n 0, 1) := by decide +kernel
theorem dX1_letOff_36 : decode cX1_letOff 36 = .ok (.getfield 51, 3) := by decide +kernel
theorem dX1_letOff_39 : decode cX1_letOff 39 = .ok (.invokevirtual 120, 3) := by decide +kernel
theorem dX1_letOff_42 : decode cX1_letOff 42 = .ok (.iinc 2 1, 3) := by decide +kernel
theorem dX1_letOff_45 : decode cX1_letOff 45 = .ok (.iinc 3 1, 3) := by decide +kernel
theorem dX1_letOff_48 : decode cX1_letOff 48 = .ok (.goto (-44), 3) := by decide +kernel
theorem dX1_letOff_51 : decode cX1_letOff 51 = .ok (.aload_n 1, 1) := by decide +kernel
theorem dX1_letOff_52 : decode cX1_letOff 52 = .ok (.dup, 1) := by decide +kernel
theorem dX1_letOff_53 : decode cX1_letOff 53 = .ok (.getfield 123, 3) := by decide +kernel
theorem dX1_letOff_56 : decode cX1_letOff 56 = .ok (.iload_n 2, 1) := by decide +kernel
theorem dX1_letOff_57 : decode cX1_letOff 57 = .ok (.isub, 1) := by decide +kernel
theorem dX1_letOff_58 : decode cX1_letOff 58 = .ok (.putfield 123, 3) := by decide +kernel
theorem dX1_letOff_61 : decode cX1_letOff 61 = .ok (.iload_n 2, 1) := by decide +kernel
theorem dX1_letOff_62 : decode cX1_letOff 62 = .ok (.ireturn, 1) := by decide +kernel
theorem dX1_letOn_0 : decode cX1_letOn 0 = .ok (.iconst 0, 1) := by decide +kernel
theorem dX1_letOn_1 : decode cX1_letOn 1 = .ok (.istore_n 2, 1) := by decide +kernel
theorem dX1_letOn_2 : decode cX1_letOn 2 = .ok (.iconst 0, 1) := by decide +kernel
theorem dX1_letOn_3 : decode cX1_letOn 3 = .ok (.istore_n 3, 1) := by decide +kernel
theorem dX1_letOn_4 : decode cX1_letOn 4 = .ok (.iload_n 3, 1) := by decide +kernel
theorem dX1_letOn_5 : decode cX1_letOn 5 = .ok (.aload_n 0, 1) := by decide +kernel
theorem dX1_letOn_6 : decode cX1_letOn 6 = .ok (.getfield 45, 3) := by decide +kernel
theorem dX1_letOn_9 : decode cX1_letOn 9 = .ok (.if_icmp .ge 82, 3) := by decide +kernel
theorem dX1_letOn_12 : decode cX1_letOn 12 = .ok (.aload_n 1, 1) := by decide +kernel
theorem dX1_letOn_13 : decode cX1_letOn 13 = .ok (.getfield 123, 3) := by decide +kernel
theorem dX1_letOn_16 : decode cX1_letOn 16 = .ok (.aload_n 1, 1) := by decide +kernel
theorem dX1_letOn_17 : decode cX1_letOn 17 = .ok (.getfield 63, 3) := by decide +kernel
theorem dX1_letOn_20 : decode cX1_letOn 20 = .ok (.if_icmp .ge 71, 3) := by decide +kernel
theorem dX1_letOn_23 : decode cX1_letOn 23 = .ok (.aload_n 0, 1) := by decide +kernel
theorem dX1_letOn_24 : decode cX1_letOn 24 = .ok (.getfield 25, 3) := by decide +kernel
theorem dX1_letOn_27 : decode cX1_letOn 27 = .ok (.iload_n 3, 1) := by decide +kernel
theorem dX1_letOn_28 : decode cX1_letOn 28 = .ok (.aaload, 1) := by decide +kernel
theorem dX1_letOn_29 : decode cX1_letOn 29 = .ok (.astore 4, 2) := by decide +kernel
theorem dX1_letOn_31 : decode cX1_letOn 31 = .ok (.aload 4, 2) := by decide +kernel
theorem dX1_letOn_33 : decode cX1_letOn 33 = .ok (.aload_n 1, 1) := by decide +kernel
theorem dX1_letOn_34 : decode cX1_letOn 34 = .ok (.getfield 57, 3) := by decide +kernel
theorem dX1_letOn_37 : decode cX1_letOn 37 = .ok (.invokevirtual 126, 3) := by decide +kernel
theorem dX1_letOn_40 : decode cX1_letOn 40 = .ok (.ifCond .eq 45, 3) := by decide +kernel
theorem dX1_letOn_43 : decode cX1_letOn 43 = .ok (.aload_n 1, 1) := by decide +kernel
theorem dX1_letOn_44 : decode cX1_letOn 44 = .ok (.dup, 1) := by decide +kernel
theorem dX1_letOn_45 : decode cX1_letOn 45 = .ok (.getfield 130, 3) := by decide +kernel
theorem dX1_letOn_48 : decode cX1_letOn 48 = .ok (.aload 4, 2) := by decide +kernel
theorem dX1_letOn_50 : decode cX1_letOn 50 = .ok (.aload_n 1, 1) := by decide +kernel
theorem dX1_letOn_51 : decode cX1_letOn 51 = .ok (.aload_n 0, 1) := by decide +kernel
theorem dX1_letOn_52 : decode cX1_letOn 52 = .ok (.aload 4, 2) := by decide +kernel
theorem dX1_letOn_54 : decode cX1_letOn 54 = .ok (.getfield 69, 3) := by decide +kernel
theorem dX1_letOn_57 : decode cX1_letOn 57 = .ok (.aload 4, 2) := by decide +kernel
theorem dX1_letOn_59 : decode cX1_letOn 59 = .ok (.getfield 70, 3) := by decide +kernel
theorem dX1_letOn_62 : decode cX1_letOn 62 = .ok (.invokevirtual 133, 3) := by decide +kernel
theorem dX1_letOn_65 : decode cX1_letOn 65 = .ok (.invokevirtual 137, 3) := by decide +kernel
theorem dX1_letOn_68 : decode cX1_letOn 68 = .ok (.iadd, 1) := by decide +kernel
theorem dX1_letOn_69 : decode cX1_letOn 69 = .ok (.putfield 130, 3) := by decide +kernel
theorem dX1_letOn_72 : decode cX1_letOn 72 = .ok (.aload_n 1, 1) := by decide +kernel
theorem dX1_letOn_73 : decode cX1_letOn 73 = .ok (.dup, 1) := by decide +kernel
theorem dX1_letOn_74 : decode cX1_letOn 74 = .ok (.getfield 123, 3) := by decide +kernel
theorem dX1_letOn_77 : decode cX1_letOn 77 = .ok (.iconst 1, 1) := by decide +kernel
theorem dX1_letOn_78 : decode cX1_letOn 78 = .ok (.iadd, 1) := by decide +kernel
theorem dX1_letOn_79 : decode cX1_letOn 79 = .ok (.putfield 123, 3) := by decide +kernel
theorem dX1_letOn_82 : decode cX1_letOn 82 = .ok (.iinc 2 1, 3) := by decide +kernel
theorem dX1_letOn_85 : decode cX1_letOn 85 = .ok (.iinc 3 1, 3) := by decide +kernel
theorem dX1_letOn_88 : decode cX1_letOn 88 = .ok (.goto (-84), 3) := by decide +kernel
theorem dX1_letOn_91 : decode cX1_letOn 91 = .ok (.iload_n 2, 1) := by decide +kernel
theorem dX1_letOn_92 : decode cX1_letOn 92 = .ok (.ireturn, 1) := by decide +kernel
theorem dX1_tellStop_0 : decode cX1_tellStop 0 = .ok (.iload_n 2, 1) := by decide +kernel
theorem dX1_tellStop_1 : decode cX1_tellStop 1 = .ok (.tableswitch 61 0 3 #[31, 40, 49, 55], 31) := by decide +kernel
theorem dX1_tellStop_32 : decode cX1_tellStop 32 = .ok (.aload_n 0, 1) := by decide +kernel
theorem dX1_tellStop_33 : decode cX1_tellStop 33 = .ok (.iload_n 1, 1) := by decide +kernel
theorem dX1_tellStop_34 : decode cX1_tellStop 34 = .ok (.invokevirtual 73, 3) := by decide +kernel
theorem dX1_tellStop_37 : decode cX1_tellStop 37 = .ok (.getfield 113, 3) := by decide +kernel
theorem dX1_tellStop_40 : decode cX1_tellStop 40 = .ok (.ireturn, 1) := by decide +kernel
theorem dX1_tellStop_41 : decode cX1_tellStop 41 = .ok (.aload_n 0, 1) := by decide +kernel
theorem dX1_tellStop_42 : decode cX1_tellStop 42 = .ok (.iload_n 1, 1) := by decide +kernel
theorem dX1_tellStop_43 : decode cX1_tellStop 43 = .ok (.invokevirtual 73, 3) := by decide +kernel
theorem dX1_tellStop_46 : decode cX1_tellStop 46 = .ok (.getfield 77, 3) := by decide +kernel
theorem dX1_tellStop_49 : decode cX1_tellStop 49 = .ok (.ireturn, 1) := by decide +kernel
theorem dX1_tellStop_50 : decode cX1_tellStop 50 = .ok (.aload_n 0, 1) := by decide +kernel
theorem dX1_tellStop_51 : decode cX1_tellStop 51 = .ok (.iload_n 1, 1) := by decide +kernel
theorem dX1_tellStop_52 : decode cX1_tellStop 52 = .ok (.invokevirtual 141, 3) := by decide +kernel
theorem dX1_tellStop_55 : decode cX1_tellStop 55 = .ok (.ireturn, 1) := by decide +kernel
theorem dX1_tellStop_56 : decode cX1_tellStop 56 = .ok (.aload_n 0, 1) := by decide +kernel
theorem dX1_tellStop_57 : decode cX1_tellStop 57 = .ok (.iload_n 1, 1) := by decide +kernel
theorem dX1_tellStop_58 : decode cX1_tellStop 58 = .ok (.invokevirtual 145, 3) := by decide +kernel
theorem dX1_tellStop_61 : decode cX1_tellStop 61 = .ok (.ireturn, 1) := by decide +kernel
theorem dX1_tellStop_62 : decode cX1_tellStop 62 = .ok (.aload_n 0, 1) := by decide +kernel
theorem dX1_tellStop_63 : decode cX1_tellStop 63 = .ok (.iload_n 1, 1) := by decide +kernel
theorem dX1_tellStop_64 : decode cX1_tellStop 64 = .ok (.invokevirtual 73, 3) := by decide +kernel
theorem dX1_tellStop_67 : decode cX1_tellStop 67 = .ok (.getfield 110, 3) := by decide +kernel
theorem dX1_tellStop_70 : decode cX1_tellStop 70 = .ok (.ireturn, 1) := by decide +kernel
theorem dX1_tellCount_0 : decode cX1_tellCount 0 = .ok (.iload_n 1, 1) := by decide +kernel
theorem dX1_tellCount_1 : decode cX1_tellCount 1 = .ok (.tableswitch 99 0 8 #[51, 56, 61, 66, 71, 77, 83, 89, 94], 51) := by decide +kernel
theorem dX1_tellCount_52 : decode cX1_tellCount 52 = .ok (.aload_n 0, 1) := by decide +kernel
theorem dX1_tellCount_53 : decode cX1_tellCount 53 = .ok (.getfield 51, 3) := by decide +kernel
theorem dX1_tellCount_56 : decode cX1_tellCount 56 = .ok (.ireturn, 1) := by decide +kernel
theorem dX1_tellCount_57 : decode cX1_tellCount 57 = .ok (.aload_n 0, 1) := by decide +kernel
theorem dX1_tellCount_58 : decode cX1_tellCount 58 = .ok (.getfield 54, 3) := by decide +kernel
theorem dX1_tellCount_61 : decode cX1_tellCount 61 = .ok (.ireturn, 1) := by decide +kernel
theorem dX1_tellCount_62 : decode cX1_tellCount 62 = .ok (.aload_n 0, 1) := by decide +kernel
theorem dX1_tellCount_63 : decode cX1_tellCount 63 = .ok (.getfield 38, 3) := by decide +kernel
theorem dX1_tellCount_66 : decode cX1_tellCount 66 = .ok (.ireturn, 1) := by decide +kernel
theorem dX1_tellCount_67 : decode cX1_tellCount 67 = .ok (.aload_n 0, 1) := by decide +kernel
theorem dX1_tellCount_68 : decode cX1_tellCount 68 = .ok (.getfield 45, 3) := by decide +kernel
theorem dX1_tellCount_71 : decode cX1_tellCount 71 = .ok (.ireturn, 1) := by decide +kernel
theorem dX1_tellCount_72 : decode cX1_tellCount 72 = .ok (.aload_n 0, 1) := by decide +kernel
theorem dX1_tellCount_73 : decode cX1_tellCount 73 = .ok (.iconst 0, 1) := by decide +kernel
theorem dX1_tellCount_74 : decode cX1_tellCount 74 = .ok (.invokevirtual 148, 3) := by decide +kernel
theorem dX1_tellCount_77 : decode cX1_tellCount 77 = .ok (.ireturn, 1) := by decide +kernel
theorem dX1_tellCount_78 : decode cX1_tellCount 78 = .ok (.aload_n 0, 1) := by decide +kernel
theorem dX1_tellCount_79 : decode cX1_tellCount 79 = .ok (.iconst 1, 1) := by decide +kernel
theorem dX1_tellCount_80 : decode cX1_tellCount 80 = .ok (.invokevirtual 148, 3) := by decide +kernel
theorem dX1_tellCount_83 : decode cX1_tellCount 83 = .ok (.ireturn, 1) := by decide +kernel
theorem dX1_tellCount_84 : decode cX1_tellCount 84 = .ok (.aload_n 0, 1) := by decide +kernel
theorem dX1_tellCount_85 : decode cX1_tellCount 85 = .ok (.iconst 2, 1) := by decide +kernel
theorem dX1_tellCount_86 : decode cX1_tellCount 86 = .ok (.invokevirtual 148, 3) := by decide +kernel
theorem dX1_tellCount_89 : decode cX1_tellCount 89 = .ok (.ireturn, 1) := by decide +kernel
theorem dX1_tellCount_90 : decode cX1_tellCount 90 = .ok (.aload_n 0, 1) := by decide +kernel
theorem dX1_tellCount_91 : decode cX1_tellCount 91 = .ok (.invokevirtual 151, 3) := by decide +kernel
theorem dX1_tellCount_94 : decode cX1_tellCount 94 = .ok (.ireturn, 1) := by decide +kernel
theorem dX1_tellCount_95 : decode cX1_tellCount 95 = .ok (.aload_n 0, 1) := by decide +kernel
theorem dX1_tellCount_96 : decode cX1_tellCount 96 = .ok (.invokevirtual 155, 3) := by decide +kernel
theorem dX1_tellCount_99 : decode cX1_tellCount 99 = .ok (.ireturn, 1) := by decide +kernel
theorem dX1_tellCount_100 : decode cX1_tellCount 100 = .ok (.aload_n 0, 1) := by decide +kernel
theorem dX1_tellCount_101 : decode cX1_tellCount 101 = .ok (.invokevirtual 158, 3) := by decide +kernel
theorem dX1_tellCount_104 : decode cX1_tellCount 104 = .ok (.ireturn, 1) := by decide +kernel
theorem dX1_waitingAt_0 : decode cX1_waitingAt 0 = .ok (.iconst 0, 1) := by decide +kernel
theorem dX1_waitingAt_1 : decode cX1_waitingAt 1 = .ok (.istore_n 2, 1) := by decide +kernel
theorem dX1_waitingAt_2 : decode cX1_waitingAt 2 = .ok (.iconst 0, 1) := by decide +kernel
theorem dX1_waitingAt_3 : decode cX1_waitingAt 3 = .ok (.istore_n 3, 1) := by decide +kernel
theorem dX1_waitingAt_4 : decode cX1_waitingAt 4 = .ok (.iload_n 3, 1) := by decide +kernel
theorem dX1_waitingAt_5 : decode cX1_waitingAt 5 = .ok (.aload_n 0, 1) := by decide +kernel
theorem dX1_waitingAt_6 : decode cX1_waitingAt 6 = .ok (.getfield 45, 3) := by decide +kernel
theorem dX1_waitingAt_9 : decode cX1_waitingAt 9 = .ok (.if_icmp .ge 25, 3) := by decide +kernel
theorem dX1_waitingAt_12 : decode cX1_waitingAt 12 = .ok (.aload_n 0, 1) := by decide +kernel
theorem dX1_waitingAt_13 : decode cX1_waitingAt 13 = .ok (.getfield 25, 3) := by decide +kernel
theorem dX1_waitingAt_16 : decode cX1_waitingAt 16 = .ok (.iload_n 3, 1) := by decide +kernel
theorem dX1_waitingAt_17 : decode cX1_waitingAt 17 = .ok (.aaload, 1) := by decide +kernel
theorem dX1_waitingAt_18 : decode cX1_waitingAt 18 = .ok (.iload_n 1, 1) := by decide +kernel
theorem dX1_waitingAt_19 : decode cX1_waitingAt 19 = .ok (.invokevirtual 126, 3) := by decide +kernel
theorem dX1_waitingAt_22 : decode cX1_waitingAt 22 = .ok (.ifCond .eq 6, 3) := by decide +kernel
theorem dX1_waitingAt_25 : decode cX1_waitingAt 25 = .ok (.iinc 2 1, 3) := by decide +kernel
theorem dX1_waitingAt_28 : decode cX1_waitingAt 28 = .ok (.iinc 3 1, 3) := by decide +kernel
theorem dX1_waitingAt_31 : decode cX1_waitingAt 31 = .ok (.goto (-27), 3) := by decide +kernel
theorem dX1_waitingAt_34 : decode cX1_waitingAt 34 = .ok (.iload_n 2, 1) := by decide +kernel
theorem dX1_waitingAt_35 : decode cX1_waitingAt 35 = .ok (.ireturn, 1) := by decide +kernel
theorem dX1_standingAt_0 : decode cX1_standingAt 0 = .ok (.iconst 0, 1) := by decide +kernel
theorem dX1_standingAt_1 : decode cX1_standingAt 1 = .ok (.istore_n 2, 1) := by decide +kernel
theorem dX1_standingAt_2 : decode cX1_standingAt 2 = .ok (.iconst 0, 1) := by decide +kernel
theorem dX1_standingAt_3 : decode cX1_standingAt 3 = .ok (.istore_n 3, 1) := by decide +kernel
theorem dX1_standingAt_4 : decode cX1_standingAt 4 = .ok (.iload_n 3, 1) := by decide +kernel
theorem dX1_standingAt_5 : decode cX1_standingAt 5 = .ok (.aload_n 0, 1) := by decide +kernel
theorem dX1_standingAt_6 : decode cX1_standingAt 6 = .ok (.getfield 38, 3) := by decide +kernel
theorem dX1_standingAt_9 : decode cX1_standingAt 9 = .ok (.if_icmp .ge 37, 3) := by decide +kernel
theorem dX1_standingAt_12 : decode cX1_standingAt 12 = .ok (.aload_n 0, 1) := by decide +kernel
theorem dX1_standingAt_13 : decode cX1_standingAt 13 = .ok (.getfield 19, 3) := by decide +kernel
theorem dX1_standingAt_16 : decode cX1_standingAt 16 = .ok (.iload_n 3, 1) := by decide +kernel
theorem dX1_standingAt_17 : decode cX1_standingAt 17 = .ok (.aaload, 1) := by decide +kernel
theorem dX1_standingAt_18 : decode cX1_standingAt 18 = .ok (.getfield 83, 3) := by decide +kernel
theorem dX1_standingAt_21 : decode cX1_standingAt 21 = .ok (.ifCond .ne 19, 3) := by decide +kernel
theorem dX1_standingAt_24 : decode cX1_standingAt 24 = .ok (.aload_n 0, 1) := by decide +kernel
theorem dX1_standingAt_25 : decode cX1_standingAt 25 = .ok (.getfield 19, 3) := by decide +kernel
theorem dX1_standingAt_28 : decode cX1_standingAt 28 = .ok (.iload_n 3, 1) := by decide +kernel
theorem dX1_standingAt_29 : decode cX1_standingAt 29 = .ok (.aaload, 1) := by decide +kernel
theorem dX1_standingAt_30 : decode cX1_standingAt 30 = .ok (.getfield 57, 3) := by decide +kernel
theorem dX1_standingAt_33 : decode cX1_standingAt 33 = .ok (.iload_n 1, 1) := by decide +kernel
theorem dX1_standingAt_34 : decode cX1_standingAt 34 = .ok (.if_icmp .ne 6, 3) := by decide +kernel
theorem dX1_standingAt_37 : decode cX1_standingAt 37 = .ok (.iinc 2 1, 3) := by decide +kernel
theorem dX1_standingAt_40 : decode cX1_standingAt 40 = .ok (.iinc 3 1, 3) := by decide +kernel
theorem dX1_standingAt_43 : decode cX1_standingAt 43 = .ok (.goto (-39), 3) := by decide +kernel
theorem dX1_standingAt_46 : decode cX1_standingAt 46 = .ok (.iload_n 2, 1) := by decide +kernel
theorem dX1_standingAt_47 : decode cX1_standingAt 47 = .ok (.ireturn, 1) := by decide +kernel
theorem dX1_passengersIn_0 : decode cX1_passengersIn 0 = .ok (.iconst 0, 1) := by decide +kernel
theorem dX1_passengersIn_1 : decode cX1_passengersIn 1 = .ok (.istore_n 2, 1) := by decide +kernel
theorem dX1_passengersIn_2 : decode cX1_passengersIn 2 = .ok (.iconst 0, 1) := by decide +kernel
theorem dX1_passengersIn_3 : decode cX1_passengersIn 3 = .ok (.istore_n 3, 1) := by decide +kernel
theorem dX1_passengersIn_4 : decode cX1_passengersIn 4 = .ok (.iload_n 3, 1) := by decide +kernel
theorem dX1_passengersIn_5 : decode cX1_passengersIn 5 = .ok (.aload_n 0, 1) := by decide +kernel
theorem dX1_passengersIn_6 : decode cX1_passengersIn 6 = .ok (.getfield 45, 3) := by decide +kernel
theorem dX1_passengersIn_9 : decode cX1_passengersIn 9 = .ok (.if_icmp .ge 25, 3) := by decide +kernel
theorem dX1_passengersIn_12 : decode cX1_passengersIn 12 = .ok (.aload_n 0, 1) := by decide +kernel
theorem dX1_passengersIn_13 : decode cX1_passengersIn 13 = .ok (.getfield 25, 3) := by decide +kernel
theorem dX1_passengersIn_16 : decode cX1_passengersIn 16 = .ok (.iload_n 3, 1) := by decide +kernel
theorem dX1_passengersIn_17 : decode cX1_passengersIn 17 = .ok (.aaload, 1) := by decide +kernel
theorem dX1_passengersIn_18 : decode cX1_passengersIn 18 = .ok (.getfield 93, 3) := by decide +kernel
theorem dX1_passengersIn_21 : decode cX1_passengersIn 21 = .ok (.iload_n 1, 1) := by decide +kernel
theorem dX1_passengersIn_22 : decode cX1_passengersIn 22 = .ok (.if_icmp .ne 6, 3) := by decide +kernel
theorem dX1_passengersIn_25 : decode cX1_passengersIn 25 = .ok (.iinc 2 1, 3) := by decide +kernel
theorem dX1_passengersIn_28 : decode cX1_passengersIn 28 = .ok (.iinc 3 1, 3) := by decide +kernel
theorem dX1_passengersIn_31 : decode cX1_passengersIn 31 = .ok (.goto (-27), 3) := by decide +kernel
theorem dX1_passengersIn_34 : decode cX1_passengersIn 34 = .ok (.iload_n 2, 1) := by decide +kernel
theorem dX1_passengersIn_35 : decode cX1_passengersIn 35 = .ok (.ireturn, 1) := by decide +kernel
theorem dX1_allPaid_0 : decode cX1_allPaid 0 = .ok (.iconst 0, 1) := by decide +kernel
theorem dX1_allPaid_1 : decode cX1_allPaid 1 = .ok (.istore_n 1, 1) := by decide +kernel
theorem dX1_allPaid_2 : decode cX1_allPaid 2 = .ok (.iconst 0, 1) := by decide +kernel
theorem dX1_allPaid_3 : decode cX1_allPaid 3 = .ok (.istore_n 2, 1) := by decide +kernel
theorem dX1_allPaid_4 : decode cX1_allPaid 4 = .ok (.iload_n 2, 1) := by decide +kernel
theorem dX1_allPaid_5 : decode cX1_allPaid 5 = .ok (.aload_n 0, 1) := by decide +kernel
theorem dX1_allPaid_6 : decode cX1_allPaid 6 = .ok (.getfield 45, 3) := by decide +kernel
theorem dX1_allPaid_9 : decode cX1_allPaid 9 = .ok (.if_icmp .ge 21, 3) := by decide +kernel
theorem dX1_allPaid_12 : decode cX1_allPaid 12 = .ok (.iload_n 1, 1) := by decide +kernel
theorem dX1_allPaid_13 : decode cX1_allPaid 13 = .ok (.aload_n 0, 1) := by decide +kernel
theorem dX1_allPaid_14 : decode cX1_allPaid 14 = .ok (.getfield 25, 3) := by decide +kernel
theorem dX1_allPaid_17 : decode cX1_allPaid 17 = .ok (.iload_n 2, 1) := by decide +kernel
theorem dX1_allPaid_18 : decode cX1_allPaid 18 = .ok (.aaload, 1) := by decide +kernel
theorem dX1_allPaid_19 : decode cX1_allPaid 19 = .ok (.getfield 161, 3) := by decide +kernel
theorem dX1_allPaid_22 : decode cX1_allPaid 22 = .ok (.iadd, 1) := by decide +kernel
theorem dX1_allPaid_23 : decode cX1_allPaid 23 = .ok (.istore_n 1, 1) := by decide +kernel
theorem dX1_allPaid_24 : decode cX1_allPaid 24 = .ok (.iinc 2 1, 3) := by decide +kernel
theorem dX1_allPaid_27 : decode cX1_allPaid 27 = .ok (.goto (-23), 3) := by decide +kernel
theorem dX1_allPaid_30 : decode cX1_allPaid 30 = .ok (.iload_n 1, 1) := by decide +kernel
theorem dX1_allPaid_31 : decode cX1_allPaid 31 = .ok (.ireturn, 1) := by decide +kernel
theorem dX1_allWaited_0 : decode cX1_allWaited 0 = .ok (.iconst 0, 1) := by decide +kernel
theorem dX1_allWaited_1 : decode cX1_allWaited 1 = .ok (.istore_n 1, 1) := by decide +kernel
theorem dX1_allWaited_2 : decode cX1_allWaited 2 = .ok (.iconst 0, 1) := by decide +kernel
theorem dX1_allWaited_3 : decode cX1_allWaited 3 = .ok (.istore_n 2, 1) := by decide +kernel
theorem dX1_allWaited_4 : decode cX1_allWaited 4 = .ok (.iload_n 2, 1) := by decide +kernel
theorem dX1_allWaited_5 : decode cX1_allWaited 5 = .ok (.aload_n 0, 1) := by decide +kernel
theorem dX1_allWaited_6 : decode cX1_allWaited 6 = .ok (.getfield 45, 3) := by decide +kernel
theorem dX1_allWaited_9 : decode cX1_allWaited 9 = .ok (.if_icmp .ge 21, 3) := by decide +kernel
theorem dX1_allWaited_12 : decode cX1_allWaited 12 = .ok (.iload_n 1, 1) := by decide +kernel
theorem dX1_allWaited_13 : decode cX1_allWaited 13 = .ok (.aload_n 0, 1) := by decide +kernel
theorem dX1_allWaited_14 : decode cX1_allWaited 14 = .ok (.getfield 25, 3) := by decide +kernel
theorem dX1_allWaited_17 : decode cX1_allWaited 17 = .ok (.iload_n 2, 1) := by decide +kernel
theorem dX1_allWaited_18 : decode cX1_allWaited 18 = .ok (.aaload, 1) := by decide +kernel
theorem dX1_allWaited_19 : decode cX1_allWaited 19 = .ok (.getfield 96, 3) := by decide +kernel
theorem dX1_allWaited_22 : decode cX1_allWaited 22 = .ok (.iadd, 1) := by decide +kernel
theorem dX1_allWaited_23 : decode cX1_allWaited 23 = .ok (.istore_n 1, 1) := by decide +kernel
theorem dX1_allWaited_24 : decode cX1_allWaited 24 = .ok (.iinc 2 1, 3) := by decide +kernel
theorem dX1_allWaited_27 : decode cX1_allWaited 27 = .ok (.goto (-23), 3) := by decide +kernel
theorem dX1_allWaited_30 : decode cX1_allWaited 30 = .ok (.iload_n 1, 1) := by decide +kernel
theorem dX1_allWaited_31 : decode cX1_allWaited 31 = .ok (.ireturn, 1) := by decide +kernel
theorem dX1_bunchedPairs_0 : decode cX1_bunchedPairs 0 = .ok (.iconst 0, 1) := by decide +kernel
theorem dX1_bunchedPairs_1 : decode cX1_bunchedPairs 1 = .ok (.istore_n 1, 1) := by decide +kernel
theorem dX1_bunchedPairs_2 : decode cX1_bunchedPairs 2 = .ok (.iconst 0, 1) := by decide +kernel
theorem dX1_bunchedPairs_3 : decode cX1_bunchedPairs 3 = .ok (.istore_n 2, 1) := by decide +kernel
theorem dX1_bunchedPairs_4 : decode cX1_bunchedPairs 4 = .ok (.iload_n 2, 1) := by decide +kernel
theorem dX1_bunchedPairs_5 : decode cX1_bunchedPairs 5 = .ok (.aload_n 0, 1) := by decide +kernel
theorem dX1_bunchedPairs_6 : decode cX1_bunchedPairs 6 = .ok (.getfield 38, 3) := by decide +kernel
theorem dX1_bunchedPairs_9 : decode cX1_bunchedPairs 9 = .ok (.if_icmp .ge 48, 3) := by decide +kernel
theorem dX1_bunchedPairs_12 : decode cX1_bunchedPairs 12 = .ok (.iload_n 2, 1) := by decide +kernel
theorem dX1_bunchedPairs_13 : decode cX1_bunchedPairs 13 = .ok (.iconst 1, 1) := by decide +kernel
theorem dX1_bunchedPairs_14 : decode cX1_bunchedPairs 14 = .ok (.iadd, 1) := by decide +kernel
theorem dX1_bunchedPairs_15 : decode cX1_bunchedPairs 15 = .ok (.istore_n 3, 1) := by decide +kernel
theorem dX1_bunchedPairs_16 : decode cX1_bunchedPairs 16 = .ok (.iload_n 3, 1) := by decide +kernel
theorem dX1_bunchedPairs_17 : decode cX1_bunchedPairs 17 = .ok (.aload_n 0, 1) := by decide +kernel
theorem dX1_bunchedPairs_18 : decode cX1_bunchedPairs 18 = .ok (.getfield 38, 3) := by decide +kernel
theorem dX1_bunchedPairs_21 : decode cX1_bunchedPairs 21 = .ok (.if_icmp .ge 30, 3) := by decide +kernel
theorem dX1_bunchedPairs_24 : decode cX1_bunchedPairs 24 = .ok (.aload_n 0, 1) := by decide +kernel
theorem dX1_bunchedPairs_25 : decode cX1_bunchedPairs 25 = .ok (.getfield 19, 3) := by decide +kernel
theorem dX1_bunchedPairs_28 : decode cX1_bunchedPairs 28 = .ok (.iload_n 2, 1) := by decide +kernel
theorem dX1_bunchedPairs_29 : decode cX1_bunchedPairs 29 = .ok (.aaload, 1) := by decide +kernel
theorem dX1_bunchedPairs_30 : decode cX1_bunchedPairs 30 = .ok (.aload_n 0, 1) := by decide +kernel
theorem dX1_bunchedPairs_31 : decode cX1_bunchedPairs 31 = .ok (.getfield 19, 3) := by decide +kernel
theorem dX1_bunchedPairs_34 : decode cX1_bunchedPairs 34 = .ok (.iload_n 3, 1) := by decide +kernel
theorem dX1_bunchedPairs_35 : decode cX1_bunchedPairs 35 = .ok (.aaload, 1) := by decide +kernel
theorem dX1_bunchedPairs_36 : decode cX1_bunchedPairs 36 = .ok (.invokevirtual 164, 3) := by decide +kernel
theorem dX1_bunchedPairs_39 : decode cX1_bunchedPairs 39 = .ok (.ifCond .eq 6, 3) := by decide +kernel
theorem dX1_bunchedPairs_42 : decode cX1_bunchedPairs 42 = .ok (.iinc 1 1, 3) := by decide +kernel
theorem dX1_bunchedPairs_45 : decode cX1_bunchedPairs 45 = .ok (.iinc 3 1, 3) := by decide +kernel
theorem dX1_bunchedPairs_48 : decode cX1_bunchedPairs 48 = .ok (.goto (-32), 3) := by decide +kernel
theorem dX1_bunchedPairs_51 : decode cX1_bunchedPairs 51 = .ok (.iinc 2 1, 3) := by decide +kernel
theorem dX1_bunchedPairs_54 : decode cX1_bunchedPairs 54 = .ok (.goto (-50), 3) := by decide +kernel
theorem dX1_bunchedPairs_57 : decode cX1_bunchedPairs 57 = .ok (.iload_n 1, 1) := by decide +kernel
theorem dX1_bunchedPairs_58 : decode cX1_bunchedPairs 58 = .ok (.ireturn, 1) := by decide +kernel
theorem dX2_init_0 : decode cX2_init 0 = .ok (.aload_n 0, 1) := by decide +kernel
theorem dX2_init_1 : decode cX2_init 1 = .ok (.invokespecial 3, 3) := by decide +kernel
theorem dX2_init_4 : decode cX2_init 4 = .ok (.aload_n 0, 1) := by decide +kernel
theorem dX2_init_5 : decode cX2_init 5 = .ok (.iconst (-1), 1) := by decide +kernel
theorem dX2_init_6 : decode cX2_init 6 = .ok (.putfield 9, 3) := by decide +kernel
theorem dX2_init_9 : decode cX2_init 9 = .ok (.aload_n 0, 1) := by decide +kernel
theorem dX2_init_10 : decode cX2_init 10 = .ok (.iconst (-1), 1) := by decide +kernel
theorem dX2_init_11 : decode cX2_init 11 = .ok (.putfield 15, 3) := by decide +kernel
theorem dX2_init_14 : decode cX2_init 14 = .ok (.return_, 1) := by decide +kernel
theorem dX2_copyFrom_0 : decode cX2_copyFrom 0 = .ok (.aload_n 0, 1) := by decide +kernel
theorem dX2_copyFrom_1 : decode cX2_copyFrom 1 = .ok (.aload_n 1, 1) := by decide +kernel
theorem dX2_copyFrom_2 : decode cX2_copyFrom 2 = .ok (.getfield 18, 3) := by decide +kernel
theorem dX2_copyFrom_5 : decode cX2_copyFrom 5 = .ok (.putfield 18, 3) := by decide +kernel
theorem dX2_copyFrom_8 : decode cX2_copyFrom 8 = .ok (.aload_n 0, 1) := by decide +kernel
theorem dX2_copyFrom_9 : decode cX2_copyFrom 9 = .ok (.aload_n 1, 1) := by decide +kernel
theorem dX2_copyFrom_10 : decode cX2_copyFrom 10 = .ok (.getfield 21, 3) := by decide +kernel
theorem dX2_copyFrom_13 : decode cX2_copyFrom 13 = .ok (.putfield 21, 3) := by decide +kernel
theorem dX2_copyFrom_16 : decode cX2_copyFrom 16 = .ok (.aload_n 0, 1) := by decide +kernel
theorem dX2_copyFrom_17 : decode cX2_copyFrom 17 = .ok (.aload_n 1, 1) := by decide +kernel
theorem dX2_copyFrom_18 : decode cX2_copyFrom 18 = .ok (.getfield 24, 3) := by decide +kernel
theorem dX2_copyFrom_21 : decode cX2_copyFrom 21 = .ok (.putfield 24, 3) := by decide +kernel
theorem dX2_copyFrom_24 : decode cX2_copyFrom 24 = .ok (.aload_n 0, 1) := by decide +kernel
theorem dX2_copyFrom_25 : decode cX2_copyFrom 25 = .ok (.aload_n 1, 1) := by decide +kernel
theorem dX2_copyFrom_26 : decode cX2_copyFrom 26 = .ok (.getfield 9, 3) := by decide +kernel
theorem dX2_copyFrom_29 : decode cX2_copyFrom 29 = .ok (.putfield 9, 3) := by decide +kernel
theorem dX2_copyFrom_32 : decode cX2_copyFrom 32 = .ok (.aload_n 0, 1) := by decide +kernel
theorem dX2_copyFrom_33 : decode cX2_copyFrom 33 = .ok (.aload_n 1, 1) := by decide +kernel
theorem dX2_copyFrom_34 : decode cX2_copyFrom 34 = .ok (.getfield 27, 3) := by decide +kernel
theorem dX2_copyFrom_37 : decode cX2_copyFrom 37 = .ok (.putfield 27, 3) := by decide +kernel
theorem dX2_copyFrom_40 : decode cX2_copyFrom 40 = .ok (.aload_n 0, 1) := by decide +kernel
theorem dX2_copyFrom_41 : decode cX2_copyFrom 41 = .ok (.aload_n 1, 1) := by decide +kernel
theorem dX2_copyFrom_42 : decode cX2_copyFrom 42 = .ok (.getfield 30, 3) := by decide +kernel
theorem dX2_copyFrom_45 : decode cX2_copyFrom 45 = .ok (.putfield 30, 3) := by decide +kernel
theorem dX2_copyFrom_48 : decode cX2_copyFrom 48 = .ok (.aload_n 0, 1) := by decide +kernel
theorem dX2_copyFrom_49 : decode cX2_copyFrom 49 = .ok (.aload_n 1, 1) := by decide +kernel
theorem dX2_copyFrom_50 : decode cX2_copyFrom 50 = .ok (.getfield 15, 3) := by decide +kernel
theorem dX2_copyFrom_53 : decode cX2_copyFrom 53 = .ok (.putfield 15, 3) := by decide +kernel
theorem dX2_copyFrom_56 : decode cX2_copyFrom 56 = .ok (.aload_n 0, 1) := by decide +kernel
theorem dX2_copyFrom_57 : decode cX2_copyFrom 57 = .ok (.aload_n 1, 1) := by decide +kernel
theorem dX2_copyFrom_58 : decode cX2_copyFrom 58 = .ok (.getfield 33, 3) := by decide +kernel
theorem dX2_copyFrom_61 : decode cX2_copyFrom 61 = .ok (.putfield 33, 3) := by decide +kernel
theorem dX2_copyFrom_64 : decode cX2_copyFrom 64 = .ok (.return_, 1) := by decide +kernel
theorem dX2_waitsAt_0 : decode cX2_waitsAt 0 = .ok (.aload_n 0, 1) := by decide +kernel
theorem dX2_waitsAt_1 : decode cX2_waitsAt 1 = .ok (.getfield 18, 3) := by decide +kernel
theorem dX2_waitsAt_4 : decode cX2_waitsAt 4 = .ok (.ifCond .ne 15, 3) := by decide +kernel
theorem dX2_waitsAt_7 : decode cX2_waitsAt 7 = .ok (.aload_n 0, 1) := by decide +kernel
theorem dX2_waitsAt_8 : decode cX2_waitsAt 8 = .ok (.getfield 21, 3) := by decide +kernel
theorem dX2_waitsAt_11 : decode cX2_waitsAt 11 = .ok (.iload_n 1, 1) := by decide +kernel
theorem dX2_waitsAt_12 : decode cX2_waitsAt 12 = .ok (.if_icmp .ne 7, 3) := by decide +kernel
theorem dX2_waitsAt_15 : decode cX2_waitsAt 15 = .ok (.iconst 1, 1) := by decide +kernel
theorem dX2_waitsAt_16 : decode cX2_waitsAt 16 = .ok (.goto 4, 3) := by decide +kernel
theorem dX2_waitsAt_19 : decode cX2_waitsAt 19 = .ok (.iconst 0, 1) := by decide +kernel
theorem dX2_waitsAt_20 : decode cX2_waitsAt 20 = .ok (.ireturn, 1) := by decide +kernel
theorem dX2_leavesAt_0 : decode cX2_leavesAt 0 = .ok (.aload_n 0, 1) := by decide +kernel
theorem dX2_leavesAt_1 : decode cX2_leavesAt 1 = .ok (.getfield 18, 3) := by decide +kernel
theorem dX2_leavesAt_4 : decode cX2_leavesAt 4 = .ok (.iconst 1, 1) := by decide +kernel
theorem dX2_leavesAt_5 : decode cX2_leavesAt 5 = .ok (.if_icmp .ne 26, 3) := by decide +kernel
theorem dX2_leavesAt_8 : decode cX2_leavesAt 8 = .ok (.aload_n 0, 1) := by decide +kernel
theorem dX2_leavesAt_9 : decode cX2_leavesAt 9 = .ok (.getfield 9, 3) := by decide +kernel
theorem dX2_leavesAt_12 : decode cX2_leavesAt 12 = .ok (.aload_n 2, 1) := by decide +kernel
theorem dX2_leavesAt_13 : decode cX2_leavesAt 13 = .ok (.getfield 37, 3) := by decide +kernel
theorem dX2_leavesAt_16 : decode cX2_leavesAt 16 = .ok (.if_icmp .ne 15, 3) := by decide +kernel
theorem dX2_leavesAt_19 : decode cX2_leavesAt 19 = .ok (.aload_n 0, 1) := by decide +kernel
theorem dX2_leavesAt_20 : decode cX2_leavesAt 20 = .ok (.getfield 24, 3) := by decide +kernel
theorem dX2_leavesAt_23 : decode cX2_leavesAt 23 = .ok (.iload_n 1, 1) := by decide +kernel
theorem dX2_leavesAt_24 : decode cX2_leavesAt 24 = .ok (.if_icmp .ne 7, 3) := by decide +kernel
theorem dX2_leavesAt_27 : decode cX2_leavesAt 27 = .ok (.iconst 1, 1) := by decide +kernel
theorem dX2_leavesAt_28 : decode cX2_leavesAt 28 = .ok (.goto 4, 3) := by decide +kernel
theorem dX2_leavesAt_31 : decode cX2_leavesAt 31 = .ok (.iconst 0, 1) := by decide +kernel
theorem dX2_leavesAt_32 : decode cX2_leavesAt 32 = .ok (.ireturn, 1) := by decide +kernel
theorem dX2_waitAgain_0 : decode cX2_waitAgain 0 = .ok (.aload_n 0, 1) := by decide +kernel
theorem dX2_waitAgain_1 : decode cX2_waitAgain 1 = .ok (.iload_n 2, 1) := by decide +kernel
theorem dX2_waitAgain_2 : decode cX2_waitAgain 2 = .ok (.aload_n 0, 1) := by decide +kernel
theorem dX2_waitAgain_3 : decode cX2_waitAgain 3 = .ok (.getfield 15, 3) := by decide +kernel
theorem dX2_waitAgain_6 : decode cX2_waitAgain 6 = .ok (.isub, 1) := by decide +kernel
theorem dX2_waitAgain_7 : decode cX2_waitAgain 7 = .ok (.bipush 20, 2) := by decide +kernel
theorem dX2_waitAgain_9 : decode cX2_waitAgain 9 = .ok (.if_icmp .gt 7, 3) := by decide +kernel
theorem dX2_waitAgain_12 : decode cX2_waitAgain 12 = .ok (.iconst 1, 1) := by decide +kernel
theorem dX2_waitAgain_13 : decode cX2_waitAgain 13 = .ok (.goto 4, 3) := by decide +kernel
theorem dX2_waitAgain_16 : decode cX2_waitAgain 16 = .ok (.iconst 0, 1) := by decide +kernel
theorem dX2_waitAgain_17 : decode cX2_waitAgain 17 = .ok (.putfield 33, 3) := by decide +kernel
theorem dX2_waitAgain_20 : decode cX2_waitAgain 20 = .ok (.aload_n 0, 1) := by decide +kernel
theorem dX2_waitAgain_21 : decode cX2_waitAgain 21 = .ok (.iconst 0, 1) := by decide +kernel
theorem dX2_waitAgain_22 : decode cX2_waitAgain 22 = .ok (.putfield 18, 3) := by decide +kernel
theorem dX2_waitAgain_25 : decode cX2_waitAgain 25 = .ok (.aload_n 0, 1) := by decide +kernel
theorem dX2_waitAgain_26 : decode cX2_waitAgain 26 = .ok (.iload_n 1, 1) := by decide +kernel
theorem dX2_waitAgain_27 : decode cX2_waitAgain 27 = .ok (.putfield 24, 3) := by decide +kernel
theorem dX2_waitAgain_30 : decode cX2_waitAgain 30 = .ok (.return_, 1) := by decide +kernel
theorem dX2_getOn_0 : decode cX2_getOn 0 = .ok (.aload_n 0, 1) := by decide +kernel
theorem dX2_getOn_1 : decode cX2_getOn 1 = .ok (.getfield 33, 3) := by decide +kernel
theorem dX2_getOn_4 : decode cX2_getOn 4 = .ok (.ifCond .eq 9, 3) := by decide +kernel
theorem dX2_getOn_7 : decode cX2_getOn 7 = .ok (.iload_n 2, 1) := by decide +kernel
theorem dX2_getOn_8 : decode cX2_getOn 8 = .ok (.iconst 2, 1) := by decide +kernel
theorem dX2_getOn_9 : decode cX2_getOn 9 = .ok (.idiv, 1) := by decide +kernel
theorem dX2_getOn_10 : decode cX2_getOn 10 = .ok (.goto 4, 3) := by decide +kernel
theorem dX2_getOn_13 : decode cX2_getOn 13 = .ok (.iload_n 2, 1) := by decide +kernel
theorem dX2_getOn_14 : decode cX2_getOn 14 = .ok (.istore_n 3, 1) := by decide +kernel
theorem dX2_getOn_15 : decode cX2_getOn 15 = .ok (.aload_n 0, 1) := by decide +kernel
theorem dX2_getOn_16 : decode cX2_getOn 16 = .ok (.iconst 0, 1) := by decide +kernel
theorem dX2_getOn_17 : decode cX2_getOn 17 = .ok (.putfield 33, 3) := by decide +kernel
theorem dX2_getOn_20 : decode cX2_getOn 20 = .ok (.aload_n 0, 1) := by decide +kernel
theorem dX2_getOn_21 : decode cX2_getOn 21 = .ok (.iconst 1, 1) := by decide +kernel
theorem dX2_getOn_22 : decode cX2_getOn 22 = .ok (.putfield 18, 3) := by decide +kernel
theorem dX2_getOn_25 : decode cX2_getOn 25 = .ok (.aload_n 0, 1) := by decide +kernel
theorem dX2_getOn_26 : decode cX2_getOn 26 = .ok (.aload_n 1, 1) := by decide +kernel
theorem dX2_getOn_27 : decode cX2_getOn 27 = .ok (.getfield 37, 3) := by decide +kernel
theorem dX2_getOn_30 : decode cX2_getOn 30 = .ok (.putfield 9, 3) := by decide +kernel
theorem dX2_getOn_33 : decode cX2_getOn 33 = .ok (.aload_n 0, 1) := by decide +kernel
theorem dX2_getOn_34 : decode cX2_getOn 34 = .ok (.dup, 1) := by decide +kernel
theorem dX2_getOn_35 : decode cX2_getOn 35 = .ok (.getfield 27, 3) := by decide +kernel
theorem dX2_getOn_38 : decode cX2_getOn 38 = .ok (.iload_n 3, 1) := by decide +kernel
theorem dX2_getOn_39 : decode cX2_getOn 39 = .ok (.iadd, 1) := by decide +kernel
theorem dX2_getOn_40 : decode cX2_getOn 40 = .ok (.putfield 27, 3) := by decide +kernel
theorem dX2_getOn_43 : decode cX2_getOn 43 = .ok (.iload_n 3, 1) := by decide +kernel
theorem dX2_getOn_44 : decode cX2_getOn 44 = .ok (.ireturn, 1) := by decide +kernel
theorem dX2_getOff_0 : decode cX2_getOff 0 = .ok (.aload_n 0, 1) := by decide +kernel
theorem dX2_getOff_1 : decode cX2_getOff 1 = .ok (.iconst 2, 1) := by decide +kernel
theorem dX2_getOff_2 : decode cX2_getOff 2 = .ok (.putfield 18, 3) := by decide +kernel
theorem dX2_getOff_5 : decode cX2_getOff 5 = .ok (.aload_n 0, 1) := by decide +kernel
theorem dX2_getOff_6 : decode cX2_getOff 6 = .ok (.aload_n 0, 1) := by decide +kernel
theorem dX2_getOff_7 : decode cX2_getOff 7 = .ok (.getfield 24, 3) := by decide +kernel
theorem dX2_getOff_10 : decode cX2_getOff 10 = .ok (.putfield 21, 3) := by decide +kernel
theorem dX2_getOff_13 : decode cX2_getOff 13 = .ok (.aload_n 0, 1) := by decide +kernel
theorem dX2_getOff_14 : decode cX2_getOff 14 = .ok (.iconst (-1), 1) := by decide +kernel
theorem dX2_getOff_15 : decode cX2_getOff 15 = .ok (.putfield 9, 3) := by decide +kernel
theorem dX2_getOff_18 : decode cX2_getOff 18 = .ok (.aload_n 0, 1) := by decide +kernel
theorem dX2_getOff_19 : decode cX2_getOff 19 = .ok (.iload_n 1, 1) := by decide +kernel
theorem dX2_getOff_20 : decode cX2_getOff 20 = .ok (.putfield 15, 3) := by decide +kernel
theorem dX2_getOff_23 : decode cX2_getOff 23 = .ok (.return_, 1) := by decide +kernel
theorem dX2_tell_0 : decode cX2_tell 0 = .ok (.iload_n 1, 1) := by decide +kernel
theorem dX2_tell_1 : decode cX2_tell 1 = .ok (.tableswitch 69 0 5 #[39, 44, 49, 54, 59, 64], 39) := by decide +kernel
theorem dX2_tell_40 : decode cX2_tell 40 = .ok (.aload_n 0, 1) := by decide +kernel
theorem dX2_tell_41 : decode cX2_tell 41 = .ok (.getfield 18, 3) := by decide +kernel
theorem dX2_tell_44 : decode cX2_tell 44 = .ok (.ireturn, 1) := by decide +kernel
theorem dX2_tell_45 : decode cX2_tell 45 = .ok (.aload_n 0, 1) := by decide +kernel
theorem dX2_tell_46 : decode cX2_tell 46 = .ok (.getfield 21, 3) := by decide +kernel
theorem dX2_tell_49 : decode cX2_tell 49 = .ok (.ireturn, 1) := by decide +kernel
theorem dX2_tell_50 : decode cX2_tell 50 = .ok (.aload_n 0, 1) := by decide +kernel
theorem dX2_tell_51 : decode cX2_tell 51 = .ok (.getfield 24, 3) := by decide +kernel
theorem dX2_tell_54 : decode cX2_tell 54 = .ok (.ireturn, 1) := by decide +kernel
theorem dX2_tell_55 : decode cX2_tell 55 = .ok (.aload_n 0, 1) := by decide +kernel
theorem dX2_tell_56 : decode cX2_tell 56 = .ok (.getfield 9, 3) := by decide +kernel
theorem dX2_tell_59 : decode cX2_tell 59 = .ok (.ireturn, 1) := by decide +kernel
theorem dX2_tell_60 : decode cX2_tell 60 = .ok (.aload_n 0, 1) := by decide +kernel
theorem dX2_tell_61 : decode cX2_tell 61 = .ok (.getfield 27, 3) := by decide +kernel
theorem dX2_tell_64 : decode cX2_tell 64 = .ok (.ireturn, 1) := by decide +kernel
theorem dX2_tell_65 : decode cX2_tell 65 = .ok (.aload_n 0, 1) := by decide +kernel
theorem dX2_tell_66 : decode cX2_tell 66 = .ok (.getfield 30, 3) := by decide +kernel
theorem dX2_tell_69 : decode cX2_tell 69 = .ok (.ireturn, 1) := by decide +kernel
theorem dX2_tell_70 : decode cX2_tell 70 = .ok (.aload_n 0, 1) := by decide +kernel
theorem dX2_tell_71 : decode cX2_tell 71 = .ok (.getfield 15, 3) := by decide +kernel
theorem dX2_tell_74 : decode cX2_tell 74 = .ok (.ireturn, 1) := by decide +kernel
theorem dX3_init_0 : decode cX3_init 0 = .ok (.aload_n 0, 1) := by decide +kernel
theorem dX3_init_1 : decode cX3_init 1 = .ok (.invokespecial 3, 3) := by decide +kernel
theorem dX3_init_4 : decode cX3_init 4 = .ok (.aload_n 0, 1) := by decide +kernel
theorem dX3_init_5 : decode cX3_init 5 = .ok (.iconst 2, 1) := by decide +kernel
theorem dX3_init_6 : decode cX3_init 6 = .ok (.putfield 9, 3) := by decide +kernel
theorem dX3_init_9 : decode cX3_init 9 = .ok (.aload_n 0, 1) := by decide +kernel
theorem dX3_init_10 : decode cX3_init 10 = .ok (.iload_n 1, 1) := by decide +kernel
theorem dX3_init_11 : decode cX3_init 11 = .ok (.putfield 15, 3) := by decide +kernel
theorem dX3_init_14 : decode cX3_init 14 = .ok (.aload_n 0, 1) := by decide +kernel
theorem dX3_init_15 : decode cX3_init 15 = .ok (.iconst (-1), 1) := by decide +kernel
theorem dX3_init_16 : decode cX3_init 16 = .ok (.putfield 18, 3) := by decide +kernel
theorem dX3_init_19 : decode cX3_init 19 = .ok (.return_, 1) := by decide +kernel
theorem dX3_copyFrom_0 : decode cX3_copyFrom 0 = .ok (.aload_n 0, 1) := by decide +kernel
theorem dX3_copyFrom_1 : decode cX3_copyFrom 1 = .ok (.aload_n 1, 1) := by decide +kernel
theorem dX3_copyFrom_2 : decode cX3_copyFrom 2 = .ok (.getfield 9, 3) := by decide +kernel
theorem dX3_copyFrom_5 : decode cX3_copyFrom 5 = .ok (.putfield 9, 3) := by decide +kernel
theorem dX3_copyFrom_8 : decode cX3_copyFrom 8 = .ok (.aload_n 0, 1) := by decide +kernel
theorem dX3_copyFrom_9 : decode cX3_copyFrom 9 = .ok (.aload_n 1, 1) := by decide +kernel
theorem dX3_copyFrom_10 : decode cX3_copyFrom 10 = .ok (.getfield 15, 3) := by decide +kernel
theorem dX3_copyFrom_13 : decode cX3_copyFrom 13 = .ok (.putfield 15, 3) := by decide +kernel
theorem dX3_copyFrom_16 : decode cX3_copyFrom 16 = .ok (.aload_n 0, 1) := by decide +kernel
theorem dX3_copyFrom_17 : decode cX3_copyFrom 17 = .ok (.aload_n 1, 1) := by decide +kernel
theorem dX3_copyFrom_18 : decode cX3_copyFrom 18 = .ok (.getfield 18, 3) := by decide +kernel
theorem dX3_copyFrom_21 : decode cX3_copyFrom 21 = .ok (.putfield 18, 3) := by decide +kernel
theorem dX3_copyFrom_24 : decode cX3_copyFrom 24 = .ok (.return_, 1) := by decide +kernel
theorem dX3_letsLeave_0 : decode cX3_letsLeave 0 = .ok (.iload_n 2, 1) := by decide +kernel
theorem dX3_letsLeave_1 : decode cX3_letsLeave 1 = .ok (.ifCond .eq 21, 3) := by decide +kernel
theorem dX3_letsLeave_4 : decode cX3_letsLeave 4 = .ok (.aload_n 0, 1) := by decide +kernel
theorem dX3_letsLeave_5 : decode cX3_letsLeave 5 = .ok (.getfield 18, 3) := by decide +kernel
theorem dX3_letsLeave_8 : decode cX3_letsLeave 8 = .ok (.iconst (-1), 1) := by decide +kernel
theorem dX3_letsLeave_9 : decode cX3_letsLeave 9 = .ok (.if_icmp .eq 13, 3) := by decide +kernel
theorem dX3_letsLeave_12 : decode cX3_letsLeave 12 = .ok (.iload_n 1, 1) := by decide +kernel
theorem dX3_letsLeave_13 : decode cX3_letsLeave 13 = .ok (.aload_n 0, 1) := by decide +kernel
theorem dX3_letsLeave_14 : decode cX3_letsLeave 14 = .ok (.getfield 18, 3) := by decide +kernel
theorem dX3_letsLeave_17 : decode cX3_letsLeave 17 = .ok (.isub, 1) := by decide +kernel
theorem dX3_letsLeave_18 : decode cX3_letsLeave 18 = .ok (.iload_n 2, 1) := by decide +kernel
theorem dX3_letsLeave_19 : decode cX3_letsLeave 19 = .ok (.if_icmp .lt 7, 3) := by decide +kernel
theorem dX3_letsLeave_22 : decode cX3_letsLeave 22 = .ok (.iconst 1, 1) := by decide +kernel
theorem dX3_letsLeave_23 : decode cX3_letsLeave 23 = .ok (.goto 4, 3) := by decide +kernel
theorem dX3_letsLeave_26 : decode cX3_letsLeave 26 = .ok (.iconst 0, 1) := by decide +kernel
theorem dX3_letsLeave_27 : decode cX3_letsLeave 27 = .ok (.ireturn, 1) := by decide +kernel
theorem dJ9_max_7cf53_0 : decode cJ9_max_7cf53 0 = .ok (.iload_n 0, 1) := by decide +kernel
theorem dJ9_max_7cf53_1 : decode cJ9_max_7cf53 1 = .ok (.iload_n 1, 1) := by decide +kernel
theorem dJ9_max_7cf53_2 : decode cJ9_max_7cf53 2 = .ok (.if_icmp .lt 7, 3) := by decide +kernel
theorem dJ9_max_7cf53_5 : decode cJ9_max_7cf53 5 = .ok (.iload_n 0, 1) := by decide +kernel
theorem dJ9_max_7cf53_6 : decode cJ9_max_7cf53 6 = .ok (.goto 4, 3) := by decide +kernel
theorem dJ9_max_7cf53_9 : decode cJ9_max_7cf53 9 = .ok (.iload_n 1, 1) := by decide +kernel
theorem dJ9_max_7cf53_10 : decode cJ9_max_7cf53 10 = .ok (.ireturn, 1) := by decide +kernel
end
section
theorem dX4_init_0 : decode cX4_init 0 = .ok (.aload_n 0, 1) := by decide +kernel
theorem dX4_init_1 : decode cX4_init 1 = .ok (.invokespecial 1, 3) := by decide +kernel
theorem dX4_init_4 : decode cX4_init 4 = .ok (.aload_n 0, 1) := by decide +kernel
theorem dX4_init_5 : decode cX4_init 5 = .ok (.new 7, 3) := by decide +kernel
theorem dX4_init_8 : decode cX4_init 8 = .ok (.dup, 1) := by decide +kernel
theorem dX4_init_9 : decode cX4_init 9 = .ok (.invokespecial 9, 3) := by decide +kernel
theorem dX4_init_12 : decode cX4_init 12 = .ok (.putfield 10, 3) := by decide +kernel
theorem dX4_init_15 : decode cX4_init 15 = .ok (.aload_n 0, 1) := by decide +kernel
theorem dX4_init_16 : decode cX4_init 16 = .ok (.new 7, 3) := by decide +kernel
theorem dX4_init_19 : decode cX4_init 19 = .ok (.dup, 1) := by decide +kernel
theorem dX4_init_20 : decode cX4_init 20 = .ok (.invokespecial 9, 3) := by decide +kernel
theorem dX4_init_23 : decode cX4_init 23 = .ok (.putfield 16, 3) := by decide +kernel
theorem dX4_init_26 : decode cX4_init 26 = .ok (.return_, 1) := by decide +kernel
theorem dX4_set_0 : decode cX4_set 0 = .ok (.iload_n 1, 1) := by decide +kernel
theorem dX4_set_1 : decode cX4_set 1 = .ok (.invokestatic 19, 3) := by decide +kernel
theorem dX4_set_4 : decode cX4_set 4 = .ok (.ifCond .ne 13, 3) := by decide +kernel
theorem dX4_set_7 : decode cX4_set 7 = .ok (.new 23, 3) := by decide +kernel
theorem dX4_set_10 : decode cX4_set 10 = .ok (.dup, 1) := by decide +kernel
theorem dX4_set_11 : decode cX4_set 11 = .ok (.ldc 25, 2) := by decide +kernel
theorem dX4_set_13 : decode cX4_set 13 = .ok (.invokespecial 27, 3) := by decide +kernel
theorem dX4_set_16 : decode cX4_set 16 = .ok (.athrow, 1) := by decide +kernel
theorem dX4_set_17 : decode cX4_set 17 = .ok (.iload_n 2, 1) := by decide +kernel
theorem dX4_set_18 : decode cX4_set 18 = .ok (.iconst 1, 1) := by decide +kernel
theorem dX4_set_19 : decode cX4_set 19 = .ok (.bipush 9, 2) := by decide +kernel
theorem dX4_set_21 : decode cX4_set 21 = .ok (.invokestatic 30, 3) := by decide +kernel
theorem dX4_set_24 : decode cX4_set 24 = .ok (.ifCond .eq 13, 3) := by decide +kernel
theorem dX4_set_27 : decode cX4_set 27 = .ok (.iload_n 3, 1) := by decide +kernel
theorem dX4_set_28 : decode cX4_set 28 = .ok (.iconst 0, 1) := by decide +kernel
theorem dX4_set_29 : decode cX4_set 29 = .ok (.bipush 9, 2) := by decide +kernel
theorem dX4_set_31 : decode cX4_set 31 = .ok (.invokestatic 30, 3) := by decide +kernel
theorem dX4_set_34 : decode cX4_set 34 = .ok (.ifCond .ne 13, 3) := by decide +kernel
theorem dX4_set_37 : decode cX4_set 37 = .ok (.new 34, 3) := by decide +kernel
theorem dX4_set_40 : decode cX4_set 40 = .ok (.dup, 1) := by decide +kernel
theorem dX4_set_41 : decode cX4_set 41 = .ok (.ldc 36, 2) := by decide +kernel
theorem dX4_set_43 : decode cX4_set 43 = .ok (.invokespecial 38, 3) := by decide +kernel
theorem dX4_set_46 : decode cX4_set 46 = .ok (.athrow, 1) := by decide +kernel
theorem dX4_set_47 : decode cX4_set 47 = .ok (.aload_n 0, 1) := by decide +kernel
theorem dX4_set_48 : decode cX4_set 48 = .ok (.getfield 10, 3) := by decide +kernel
theorem dX4_set_51 : decode cX4_set 51 = .ok (.iload_n 1, 1) := by decide +kernel
theorem dX4_set_52 : decode cX4_set 52 = .ok (.invokevirtual 39, 3) := by decide +kernel
theorem dX4_set_55 : decode cX4_set 55 = .ok (.astore 4, 2) := by decide +kernel
theorem dX4_set_57 : decode cX4_set 57 = .ok (.bipush 10, 2) := by decide +kernel
theorem dX4_set_59 : decode cX4_set 59 = .ok (.aload 4, 2) := by decide +kernel
theorem dX4_set_61 : decode cX4_set 61 = .ok (.getfield 43, 3) := by decide +kernel
theorem dX4_set_64 : decode cX4_set 64 = .ok (.imul, 1) := by decide +kernel
theorem dX4_set_65 : decode cX4_set 65 = .ok (.aload 4, 2) := by decide +kernel
theorem dX4_set_67 : decode cX4_set 67 = .ok (.getfield 49, 3) := by decide +kernel
theorem dX4_set_70 : decode cX4_set 70 = .ok (.iadd, 1) := by decide +kernel
theorem dX4_set_71 : decode cX4_set 71 = .ok (.istore 5, 2) := by decide +kernel
theorem dX4_set_73 : decode cX4_set 73 = .ok (.aload 4, 2) := by decide +kernel
theorem dX4_set_75 : decode cX4_set 75 = .ok (.iload_n 2, 1) := by decide +kernel
theorem dX4_set_76 : decode cX4_set 76 = .ok (.putfield 43, 3) := by decide +kernel
theorem dX4_set_79 : decode cX4_set 79 = .ok (.aload 4, 2) := by decide +kernel
theorem dX4_set_81 : decode cX4_set 81 = .ok (.iload_n 3, 1) := by decide +kernel
theorem dX4_set_82 : decode cX4_set 82 = .ok (.putfield 49, 3) := by decide +kernel
theorem dX4_set_85 : decode cX4_set 85 = .ok (.iload 5, 2) := by decide +kernel
theorem dX4_set_87 : decode cX4_set 87 = .ok (.ireturn, 1) := by decide +kernel
theorem dX4_hold_0 : decode cX4_hold 0 = .ok (.iload_n 1, 1) := by decide +kernel
theorem dX4_hold_1 : decode cX4_hold 1 = .ok (.iconst 0, 1) := by decide +kernel
theorem dX4_hold_2 : decode cX4_hold 2 = .ok (.bipush 15, 2) := by decide +kernel
theorem dX4_hold_4 : decode cX4_hold 4 = .ok (.invokestatic 30, 3) := by decide +kernel
theorem dX4_hold_7 : decode cX4_hold 7 = .ok (.ifCond .ne 13, 3) := by decide +kernel
theorem dX4_hold_10 : decode cX4_hold 10 = .ok (.new 34, 3) := by decide +kernel
theorem dX4_hold_13 : decode cX4_hold 13 = .ok (.dup, 1) := by decide +kernel
theorem dX4_hold_14 : decode cX4_hold 14 = .ok (.ldc 52, 2) := by decide +kernel
theorem dX4_hold_16 : decode cX4_hold 16 = .ok (.invokespecial 38, 3) := by decide +kernel
theorem dX4_hold_19 : decode cX4_hold 19 = .ok (.athrow, 1) := by decide +kernel
theorem dX4_hold_20 : decode cX4_hold 20 = .ok (.aload_n 0, 1) := by decide +kernel
theorem dX4_hold_21 : decode cX4_hold 21 = .ok (.getfield 10, 3) := by decide +kernel
theorem dX4_hold_24 : decode cX4_hold 24 = .ok (.getfield 54, 3) := by decide +kernel
theorem dX4_hold_27 : decode cX4_hold 27 = .ok (.istore_n 2, 1) := by decide +kernel
theorem dX4_hold_28 : decode cX4_hold 28 = .ok (.aload_n 0, 1) := by decide +kernel
theorem dX4_hold_29 : decode cX4_hold 29 = .ok (.getfield 10, 3) := by decide +kernel
theorem dX4_hold_32 : decode cX4_hold 32 = .ok (.iload_n 1, 1) := by decide +kernel
theorem dX4_hold_33 : decode cX4_hold 33 = .ok (.putfield 54, 3) := by decide +kernel
theorem dX4_hold_36 : decode cX4_hold 36 = .ok (.iload_n 2, 1) := by decide +kernel
theorem dX4_hold_37 : decode cX4_hold 37 = .ok (.ireturn, 1) := by decide +kernel
theorem dX4_start_0 : decode cX4_start 0 = .ok (.iload_n 1, 1) := by decide +kernel
theorem dX4_start_1 : decode cX4_start 1 = .ok (.invokestatic 19, 3) := by decide +kernel
theorem dX4_start_4 : decode cX4_start 4 = .ok (.ifCond .ne 13, 3) := by decide +kernel
theorem dX4_start_7 : decode cX4_start 7 = .ok (.new 23, 3) := by decide +kernel
theorem dX4_start_10 : decode cX4_start 10 = .ok (.dup, 1) := by decide +kernel
theorem dX4_start_11 : decode cX4_start 11 = .ok (.ldc 25, 2) := by decide +kernel
theorem dX4_start_13 : decode cX4_start 13 = .ok (.invokespecial 27, 3) := by decide +kernel
theorem dX4_start_16 : decode cX4_start 16 = .ok (.athrow, 1) := by decide +kernel
theorem dX4_start_17 : decode cX4_start 17 = .ok (.iload_n 2, 1) := by decide +kernel
theorem dX4_start_18 : decode cX4_start 18 = .ok (.iconst 1, 1) := by decide +kernel
theorem dX4_start_19 : decode cX4_start 19 = .ok (.bipush 20, 2) := by decide +kernel
theorem dX4_start_21 : decode cX4_start 21 = .ok (.invokestatic 30, 3) := by decide +kernel
theorem dX4_start_24 : decode cX4_start 24 = .ok (.ifCond .ne 13, 3) := by decide +kernel
theorem dX4_start_27 : decode cX4_start 27 = .ok (.new 34, 3) := by decide +kernel
theorem dX4_start_30 : decode cX4_start 30 = .ok (.dup, 1) := by decide +kernel
theorem dX4_start_31 : decode cX4_start 31 = .ok (.ldc 57, 2) := by decide +kernel
theorem dX4_start_33 : decode cX4_start 33 = .ok (.invokespecial 38, 3) := by decide +kernel
theorem dX4_start_36 : decode cX4_start 36 = .ok (.athrow, 1) := by decide +kernel
theorem dX4_start_37 : decode cX4_start 37 = .ok (.aload_n 0, 1) := by decide +kernel
theorem dX4_start_38 : decode cX4_start 38 = .ok (.getfield 10, 3) := by decide +kernel
theorem dX4_start_41 : decode cX4_start 41 = .ok (.getfield 59, 3) := by decide +kernel
theorem dX4_start_44 : decode cX4_start 44 = .ok (.bipush 6, 2) := by decide +kernel
theorem dX4_start_46 : decode cX4_start 46 = .ok (.if_icmp .lt 13, 3) := by decide +kernel
theorem dX4_start_49 : decode cX4_start 49 = .ok (.new 62, 3) := by decide +kernel
theorem dX4_start_52 : decode cX4_start 52 = .ok (.dup, 1) := by decide +kernel
theorem dX4_start_53 : decode cX4_start 53 = .ok (.ldc 64, 2) := by decide +kernel
theorem dX4_start_55 : decode cX4_start 55 = .ok (.invokespecial 66, 3) := by decide +kernel
theorem dX4_start_58 : decode cX4_start 58 = .ok (.athrow, 1) := by decide +kernel
theorem dX4_start_59 : decode cX4_start 59 = .ok (.aload_n 0, 1) := by decide +kernel
theorem dX4_start_60 : decode cX4_start 60 = .ok (.getfield 10, 3) := by decide +kernel
theorem dX4_start_63 : decode cX4_start 63 = .ok (.iload_n 1, 1) := by decide +kernel
theorem dX4_start_64 : decode cX4_start 64 = .ok (.iload_n 2, 1) := by decide +kernel
theorem dX4_start_65 : decode cX4_start 65 = .ok (.invokevirtual 67, 3) := by decide +kernel
theorem dX4_start_68 : decode cX4_start 68 = .ok (.ireturn, 1) := by decide +kernel
theorem dX4_queue_0 : decode cX4_queue 0 = .ok (.iload_n 1, 1) := by decide +kernel
theorem dX4_queue_1 : decode cX4_queue 1 = .ok (.invokestatic 19, 3) := by decide +kernel
theorem dX4_queue_4 : decode cX4_queue 4 = .ok (.ifCond .eq 10, 3) := by decide +kernel
theorem dX4_queue_7 : decode cX4_queue 7 = .ok (.iload_n 2, 1) := by decide +kernel
theorem dX4_queue_8 : decode cX4_queue 8 = .ok (.invokestatic 19, 3) := by decide +kernel
theorem dX4_queue_11 : decode cX4_queue 11 = .ok (.ifCond .ne 13, 3) := by decide +kernel
theorem dX4_queue_14 : decode cX4_queue 14 = .ok (.new 23, 3) := by decide +kernel
theorem dX4_queue_17 : decode cX4_queue 17 = .ok (.dup, 1) := by decide +kernel
theorem dX4_queue_18 : decode cX4_queue 18 = .ok (.ldc 25, 2) := by decide +kernel
theorem dX4_queue_20 : decode cX4_queue 20 = .ok (.invokespecial 27, 3) := by decide +kernel
theorem dX4_queue_23 : decode cX4_queue 23 = .ok (.athrow, 1) := by decide +kernel
theorem dX4_queue_24 : decode cX4_queue 24 = .ok (.iload_n 1, 1) := by decide +kernel
theorem dX4_queue_25 : decode cX4_queue 25 = .ok (.iload_n 2, 1) := by decide +kernel
theorem dX4_queue_26 : decode cX4_queue 26 = .ok (.if_icmp .ne 13, 3) := by decide +kernel
theorem dX4_queue_29 : decode cX4_queue 29 = .ok (.new 34, 3) := by decide +kernel
theorem dX4_queue_32 : decode cX4_queue 32 = .ok (.dup, 1) := by decide +kernel
theorem dX4_queue_33 : decode cX4_queue 33 = .ok (.ldc 71, 2) := by decide +kernel
theorem dX4_queue_35 : decode cX4_queue 35 = .ok (.invokespecial 38, 3) := by decide +kernel
theorem dX4_queue_38 : decode cX4_queue 38 = .ok (.athrow, 1) := by decide +kernel
theorem dX4_queue_39 : decode cX4_queue 39 = .ok (.aload_n 0, 1) := by decide +kernel
theorem dX4_queue_40 : decode cX4_queue 40 = .ok (.getfield 10, 3) := by decide +kernel
theorem dX4_queue_43 : decode cX4_queue 43 = .ok (.getfield 73, 3) := by decide +kernel
theorem dX4_queue_46 : decode cX4_queue 46 = .ok (.bipush 50, 2) := by decide +kernel
theorem dX4_queue_48 : decode cX4_queue 48 = .ok (.if_icmp .lt 13, 3) := by decide +kernel
theorem dX4_queue_51 : decode cX4_queue 51 = .ok (.new 62, 3) := by decide +kernel
theorem dX4_queue_54 : decode cX4_queue 54 = .ok (.dup, 1) := by decide +kernel
theorem dX4_queue_55 : decode cX4_queue 55 = .ok (.ldc 76, 2) := by decide +kernel
theorem dX4_queue_57 : decode cX4_queue 57 = .ok (.invokespecial 66, 3) := by decide +kernel
theorem dX4_queue_60 : decode cX4_queue 60 = .ok (.athrow, 1) := by decide +kernel
theorem dX4_queue_61 : decode cX4_queue 61 = .ok (.aload_n 0, 1) := by decide +kernel
theorem dX4_queue_62 : decode cX4_queue 62 = .ok (.getfield 10, 3) := by decide +kernel
theorem dX4_queue_65 : decode cX4_queue 65 = .ok (.iload_n 1, 1) := by decide +kernel
theorem dX4_queue_66 : decode cX4_queue 66 = .ok (.iload_n 2, 1) := by decide +kernel
theorem dX4_queue_67 : decode cX4_queue 67 = .ok (.invokevirtual 78, 3) := by decide +kernel
theorem dX4_queue_70 : decode cX4_queue 70 = .ok (.ireturn, 1) := by decide +kernel
theorem dX4_change_0 : decode cX4_change 0 = .ok (.aload_n 0, 1) := by decide +kernel
theorem dX4_change_1 : decode cX4_change 1 = .ok (.iload_n 1, 1) := by decide +kernel
theorem dX4_change_2 : decode cX4_change 2 = .ok (.invokevirtual 81, 3) := by decide +kernel
theorem dX4_change_5 : decode cX4_change 5 = .ok (.ifCond .eq 10, 3) := by decide +kernel
theorem dX4_change_8 : decode cX4_change 8 = .ok (.iload_n 2, 1) := by decide +kernel
theorem dX4_change_9 : decode cX4_change 9 = .ok (.invokestatic 19, 3) := by decide +kernel
theorem dX4_change_12 : decode cX4_change 12 = .ok (.ifCond .ne 13, 3) := by decide +kernel
theorem dX4_change_15 : decode cX4_change 15 = .ok (.new 23, 3) := by decide +kernel
theorem dX4_change_18 : decode cX4_change 18 = .ok (.dup, 1) := by decide +kernel
theorem dX4_change_19 : decode cX4_change 19 = .ok (.ldc 84, 2) := by decide +kernel
theorem dX4_change_21 : decode cX4_change 21 = .ok (.invokespecial 27, 3) := by decide +kernel
theorem dX4_change_24 : decode cX4_change 24 = .ok (.athrow, 1) := by decide +kernel
theorem dX4_change_25 : decode cX4_change 25 = .ok (.aload_n 0, 1) := by decide +kernel
theorem dX4_change_26 : decode cX4_change 26 = .ok (.getfield 10, 3) := by decide +kernel
theorem dX4_change_29 : decode cX4_change 29 = .ok (.getfield 86, 3) := by decide +kernel
theorem dX4_change_32 : decode cX4_change 32 = .ok (.iload_n 1, 1) := by decide +kernel
theorem dX4_change_33 : decode cX4_change 33 = .ok (.aaload, 1) := by decide +kernel
theorem dX4_change_34 : decode cX4_change 34 = .ok (.astore_n 3, 1) := by decide +kernel
theorem dX4_change_35 : decode cX4_change 35 = .ok (.aload_n 3, 1) := by decide +kernel
theorem dX4_change_36 : decode cX4_change 36 = .ok (.getfield 90, 3) := by decide +kernel
theorem dX4_change_39 : decode cX4_change 39 = .ok (.iconst 2, 1) := by decide +kernel
theorem dX4_change_40 : decode cX4_change 40 = .ok (.if_icmp .ne 11, 3) := by decide +kernel
theorem dX4_change_43 : decode cX4_change 43 = .ok (.aload_n 3, 1) := by decide +kernel
theorem dX4_change_44 : decode cX4_change 44 = .ok (.getfield 95, 3) := by decide +kernel
theorem dX4_change_47 : decode cX4_change 47 = .ok (.iload_n 2, 1) := by decide +kernel
theorem dX4_change_48 : decode cX4_change 48 = .ok (.if_icmp .ne 13, 3) := by decide +kernel
theorem dX4_change_51 : decode cX4_change 51 = .ok (.new 62, 3) := by decide +kernel
theorem dX4_change_54 : decode cX4_change 54 = .ok (.dup, 1) := by decide +kernel
theorem dX4_change_55 : decode cX4_change 55 = .ok (.ldc 98, 2) := by decide +kernel
theorem dX4_change_57 : decode cX4_change 57 = .ok (.invokespecial 66, 3) := by decide +kernel
theorem dX4_change_60 : decode cX4_change 60 = .ok (.athrow, 1) := by decide +kernel
theorem dX4_change_61 : decode cX4_change 61 = .ok (.aload_n 3, 1) := by decide +kernel
theorem dX4_change_62 : decode cX4_change 62 = .ok (.iload_n 2, 1) := by decide +kernel
theorem dX4_change_63 : decode cX4_change 63 = .ok (.aload_n 0, 1) := by decide +kernel
theorem dX4_change_64 : decode cX4_change 64 = .ok (.getfield 10, 3) := by decide +kernel
theorem dX4_change_67 : decode cX4_change 67 = .ok (.getfield 100, 3) := by decide +kernel
theorem dX4_change_70 : decode cX4_change 70 = .ok (.invokevirtual 103, 3) := by decide +kernel
theorem dX4_change_73 : decode cX4_change 73 = .ok (.aload_n 3, 1) := by decide +kernel
theorem dX4_change_74 : decode cX4_change 74 = .ok (.getfield 107, 3) := by decide +kernel
theorem dX4_change_77 : decode cX4_change 77 = .ok (.ireturn, 1) := by decide +kernel
theorem dX4_fare_0 : decode cX4_fare 0 = .ok (.iload_n 1, 1) := by decide +kernel
theorem dX4_fare_1 : decode cX4_fare 1 = .ok (.invokestatic 19, 3) := by decide +kernel
theorem dX4_fare_4 : decode cX4_fare 4 = .ok (.ifCond .eq 10, 3) := by decide +kernel
theorem dX4_fare_7 : decode cX4_fare 7 = .ok (.iload_n 2, 1) := by decide +kernel
theorem dX4_fare_8 : decode cX4_fare 8 = .ok (.invokestatic 19, 3) := by decide +kernel
theorem dX4_fare_11 : decode cX4_fare 11 = .ok (.ifCond .ne 13, 3) := by decide +kernel
theorem dX4_fare_14 : decode cX4_fare 14 = .ok (.new 23, 3) := by decide +kernel
theorem dX4_fare_17 : decode cX4_fare 17 = .ok (.dup, 1) := by decide +kernel
theorem dX4_fare_18 : decode cX4_fare 18 = .ok (.ldc 25, 2) := by decide +kernel
theorem dX4_fare_20 : decode cX4_fare 20 = .ok (.invokespecial 27, 3) := by decide +kernel
theorem dX4_fare_23 : decode cX4_fare 23 = .ok (.athrow, 1) := by decide +kernel
theorem dX4_fare_24 : decode cX4_fare 24 = .ok (.aload_n 0, 1) := by decide +kernel
theorem dX4_fare_25 : decode cX4_fare 25 = .ok (.getfield 10, 3) := by decide +kernel
theorem dX4_fare_28 : decode cX4_fare 28 = .ok (.iload_n 1, 1) := by decide +kernel
theorem dX4_fare_29 : decode cX4_fare 29 = .ok (.iload_n 2, 1) := by decide +kernel
theorem dX4_fare_30 : decode cX4_fare 30 = .ok (.invokevirtual 111, 3) := by decide +kernel
theorem dX4_fare_33 : decode cX4_fare 33 = .ok (.ireturn, 1) := by decide +kernel
theorem dX4_bus_0 : decode cX4_bus 0 = .ok (.iload_n 1, 1) := by decide +kernel
theorem dX4_bus_1 : decode cX4_bus 1 = .ok (.iconst 0, 1) := by decide +kernel
theorem dX4_bus_2 : decode cX4_bus 2 = .ok (.aload_n 0, 1) := by decide +kernel
theorem dX4_bus_3 : decode cX4_bus 3 = .ok (.getfield 10, 3) := by decide +kernel
theorem dX4_bus_6 : decode cX4_bus 6 = .ok (.getfield 59, 3) := by decide +kernel
theorem dX4_bus_9 : decode cX4_bus 9 = .ok (.iconst 1, 1) := by decide +kernel
theorem dX4_bus_10 : decode cX4_bus 10 = .ok (.isub, 1) := by decide +kernel
theorem dX4_bus_11 : decode cX4_bus 11 = .ok (.invokestatic 30, 3) := by decide +kernel
theorem dX4_bus_14 : decode cX4_bus 14 = .ok (.ifCond .eq 12, 3) := by decide +kernel
theorem dX4_bus_17 : decode cX4_bus 17 = .ok (.iload_n 2, 1) := by decide +kernel
theorem dX4_bus_18 : decode cX4_bus 18 = .ok (.iconst 0, 1) := by decide +kernel
theorem dX4_bus_19 : decode cX4_bus 19 = .ok (.iconst 5, 1) := by decide +kernel
theorem dX4_bus_20 : decode cX4_bus 20 = .ok (.invokestatic 30, 3) := by decide +kernel
theorem dX4_bus_23 : decode cX4_bus 23 = .ok (.ifCond .ne 13, 3) := by decide +kernel
theorem dX4_bus_26 : decode cX4_bus 26 = .ok (.new 23, 3) := by decide +kernel
theorem dX4_bus_29 : decode cX4_bus 29 = .ok (.dup, 1) := by decide +kernel
theorem dX4_bus_30 : decode cX4_bus 30 = .ok (.ldc 114, 2) := by decide +kernel
theorem dX4_bus_32 : decode cX4_bus 32 = .ok (.invokespecial 27, 3) := by decide +kernel
theorem dX4_bus_35 : decode cX4_bus 35 = .ok (.athrow, 1) := by decide +kernel
theorem dX4_bus_36 : decode cX4_bus 36 = .ok (.aload_n 0, 1) := by decide +kernel
theorem dX4_bus_37 : decode cX4_bus 37 = .ok (.getfield 10, 3) := by decide +kernel
theorem dX4_bus_40 : decode cX4_bus 40 = .ok (.getfield 116, 3) := by decide +kernel
theorem dX4_bus_43 : decode cX4_bus 43 = .ok (.iload_n 1, 1) := by decide +kernel
theorem dX4_bus_44 : decode cX4_bus 44 = .ok (.aaload, 1) := by decide +kernel
theorem dX4_bus_45 : decode cX4_bus 45 = .ok (.iload_n 2, 1) := by decide +kernel
theorem dX4_bus_46 : decode cX4_bus 46 = .ok (.invokevirtual 120, 3) := by decide +kernel
theorem dX4_bus_49 : decode cX4_bus 49 = .ok (.ireturn, 1) := by decide +kernel
theorem dX4_passenger_0 : decode cX4_passenger 0 = .ok (.aload_n 0, 1) := by decide +kernel
theorem dX4_passenger_1 : decode cX4_passenger 1 = .ok (.iload_n 1, 1) := by decide +kernel
theorem dX4_passenger_2 : decode cX4_passenger 2 = .ok (.invokevirtual 81, 3) := by decide +kernel
theorem dX4_passenger_5 : decode cX4_passenger 5 = .ok (.ifCond .eq 13, 3) := by decide +kernel
theorem dX4_passenger_8 : decode cX4_passenger 8 = .ok (.iload_n 2, 1) := by decide +kernel
theorem dX4_passenger_9 : decode cX4_passenger 9 = .ok (.iconst 0, 1) := by decide +kernel
theorem dX4_passenger_10 : decode cX4_passenger 10 = .ok (.bipush 6, 2) := by decide +kernel
theorem dX4_passenger_12 : decode cX4_passenger 12 = .ok (.invokestatic 30, 3) := by decide +kernel
theorem dX4_passenger_15 : decode cX4_passenger 15 = .ok (.ifCond .ne 13, 3) := by decide +kernel
theorem dX4_passenger_18 : decode cX4_passenger 18 = .ok (.new 23, 3) := by decide +kernel
theorem dX4_passenger_21 : decode cX4_passenger 21 = .ok (.dup, 1) := by decide +kernel
theorem dX4_passenger_22 : decode cX4_passenger 22 = .ok (.ldc 126, 2) := by decide +kernel
theorem dX4_passenger_24 : decode cX4_passenger 24 = .ok (.invokespecial 27, 3) := by decide +kernel
theorem dX4_passenger_27 : decode cX4_passenger 27 = .ok (.athrow, 1) := by decide +kernel
theorem dX4_passenger_28 : decode cX4_passenger 28 = .ok (.aload_n 0, 1) := by decide +kernel
theorem dX4_passenger_29 : decode cX4_passenger 29 = .ok (.getfield 10, 3) := by decide +kernel
theorem dX4_passenger_32 : decode cX4_passenger 32 = .ok (.getfield 86, 3) := by decide +kernel
theorem dX4_passenger_35 : decode cX4_passenger 35 = .ok (.iload_n 1, 1) := by decide +kernel
theorem dX4_passenger_36 : decode cX4_passenger 36 = .ok (.aaload, 1) := by decide +kernel
theorem dX4_passenger_37 : decode cX4_passenger 37 = .ok (.iload_n 2, 1) := by decide +kernel
theorem dX4_passenger_38 : decode cX4_passenger 38 = .ok (.invokevirtual 128, 3) := by decide +kernel
theorem dX4_passenger_41 : decode cX4_passenger 41 = .ok (.ireturn, 1) := by decide +kernel
theorem dX4_stop_0 : decode cX4_stop 0 = .ok (.iload_n 1, 1) := by decide +kernel
theorem dX4_stop_1 : decode cX4_stop 1 = .ok (.invokestatic 19, 3) := by decide +kernel
theorem dX4_stop_4 : decode cX4_stop 4 = .ok (.ifCond .eq 12, 3) := by decide +kernel
theorem dX4_stop_7 : decode cX4_stop 7 = .ok (.iload_n 2, 1) := by decide +kernel
theorem dX4_stop_8 : decode cX4_stop 8 = .ok (.iconst 0, 1) := by decide +kernel
theorem dX4_stop_9 : decode cX4_stop 9 = .ok (.iconst 4, 1) := by decide +kernel
theorem dX4_stop_10 : decode cX4_stop 10 = .ok (.invokestatic 30, 3) := by decide +kernel
theorem dX4_stop_13 : decode cX4_stop 13 = .ok (.ifCond .ne 13, 3) := by decide +kernel
theorem dX4_stop_16 : decode cX4_stop 16 = .ok (.new 23, 3) := by decide +kernel
theorem dX4_stop_19 : decode cX4_stop 19 = .ok (.dup, 1) := by decide +kernel
theorem dX4_stop_20 : decode cX4_stop 20 = .ok (.ldc 129, 2) := by decide +kernel
theorem dX4_stop_22 : decode cX4_stop 22 = .ok (.invokespecial 27, 3) := by decide +kernel
theorem dX4_stop_25 : decode cX4_stop 25 = .ok (.athrow, 1) := by decide +kernel
theorem dX4_stop_26 : decode cX4_stop 26 = .ok (.aload_n 0, 1) := by decide +kernel
theorem dX4_stop_27 : decode cX4_stop 27 = .ok (.getfield 10, 3) := by decide +kernel
theorem dX4_stop_30 : decode cX4_stop 30 = .ok (.iload_n 1, 1) := by decide +kernel
theorem dX4_stop_31 : decode cX4_stop 31 = .ok (.iload_n 2, 1) := by decide +kernel
theorem dX4_stop_32 : decode cX4_stop 32 = .ok (.invokevirtual 131, 3) := by decide +kernel
theorem dX4_stop_35 : decode cX4_stop 35 = .ok (.ireturn, 1) := by decide +kernel
theorem dX4_count_0 : decode cX4_count 0 = .ok (.iload_n 1, 1) := by decide +kernel
theorem dX4_count_1 : decode cX4_count 1 = .ok (.iconst 0, 1) := by decide +kernel
theorem dX4_count_2 : decode cX4_count 2 = .ok (.bipush 9, 2) := by decide +kernel
theorem dX4_count_4 : decode cX4_count 4 = .ok (.invokestatic 30, 3) := by decide +kernel
theorem dX4_count_7 : decode cX4_count 7 = .ok (.ifCond .ne 13, 3) := by decide +kernel
theorem dX4_count_10 : decode cX4_count 10 = .ok (.new 23, 3) := by decide +kernel
theorem dX4_count_13 : decode cX4_count 13 = .ok (.dup, 1) := by decide +kernel
theorem dX4_count_14 : decode cX4_count 14 = .ok (.ldc 134, 2) := by decide +kernel
theorem dX4_count_16 : decode cX4_count 16 = .ok (.invokespecial 27, 3) := by decide +kernel
theorem dX4_count_19 : decode cX4_count 19 = .ok (.athrow, 1) := by decide +kernel
theorem dX4_count_20 : decode cX4_count 20 = .ok (.aload_n 0, 1) := by decide +kernel
theorem dX4_count_21 : decode cX4_count 21 = .ok (.getfield 10, 3) := by decide +kernel
theorem dX4_count_24 : decode cX4_count 24 = .ok (.iload_n 1, 1) := by decide +kernel
theorem dX4_count_25 : decode cX4_count 25 = .ok (.invokevirtual 136, 3) := by decide +kernel
theorem dX4_count_28 : decode cX4_count 28 = .ok (.ireturn, 1) := by decide +kernel
theorem dX4_go_0 : decode cX4_go 0 = .ok (.iload_n 1, 1) := by decide +kernel
theorem dX4_go_1 : decode cX4_go 1 = .ok (.iconst 1, 1) := by decide +kernel
theorem dX4_go_2 : decode cX4_go 2 = .ok (.bipush 120, 2) := by decide +kernel
theorem dX4_go_4 : decode cX4_go 4 = .ok (.invokestatic 30, 3) := by decide +kernel
theorem dX4_go_7 : decode cX4_go 7 = .ok (.ifCond .ne 13, 3) := by decide +kernel
theorem dX4_go_10 : decode cX4_go 10 = .ok (.new 34, 3) := by decide +kernel
theorem dX4_go_13 : decode cX4_go 13 = .ok (.dup, 1) := by decide +kernel
theorem dX4_go_14 : decode cX4_go 14 = .ok (.ldc 139, 2) := by decide +kernel
theorem dX4_go_16 : decode cX4_go 16 = .ok (.invokespecial 38, 3) := by decide +kernel
theorem dX4_go_19 : decode cX4_go 19 = .ok (.athrow, 1) := by decide +kernel
theorem dX4_go_20 : decode cX4_go 20 = .ok (.aload_n 0, 1) := by decide +kernel
theorem dX4_go_21 : decode cX4_go 21 = .ok (.getfield 10, 3) := by decide +kernel
theorem dX4_go_24 : decode cX4_go 24 = .ok (.iconst 2, 1) := by decide +kernel
theorem dX4_go_25 : decode cX4_go 25 = .ok (.invokevirtual 141, 3) := by decide +kernel
theorem dX4_go_28 : decode cX4_go 28 = .ok (.istore_n 2, 1) := by decide +kernel
theorem dX4_go_29 : decode cX4_go 29 = .ok (.aload_n 0, 1) := by decide +kernel
theorem dX4_go_30 : decode cX4_go 30 = .ok (.getfield 10, 3) := by decide +kernel
theorem dX4_go_33 : decode cX4_go 33 = .ok (.iload_n 1, 1) := by decide +kernel
theorem dX4_go_34 : decode cX4_go 34 = .ok (.invokevirtual 144, 3) := by decide +kernel
theorem dX4_go_37 : decode cX4_go 37 = .ok (.aload_n 0, 1) := by decide +kernel
theorem dX4_go_38 : decode cX4_go 38 = .ok (.getfield 10, 3) := by decide +kernel
theorem dX4_go_41 : decode cX4_go 41 = .ok (.iconst 2, 1) := by decide +kernel
theorem dX4_go_42 : decode cX4_go 42 = .ok (.invokevirtual 141, 3) := by decide +kernel
theorem dX4_go_45 : decode cX4_go 45 = .ok (.iload_n 2, 1) := by decide +kernel
theorem dX4_go_46 : decode cX4_go 46 = .ok (.isub, 1) := by decide +kernel
theorem dX4_go_47 : decode cX4_go 47 = .ok (.ireturn, 1) := by decide +kernel
theorem dX4_arrives_0 : decode cX4_arrives 0 = .ok (.aload_n 0, 1) := by decide +kernel
theorem dX4_arrives_1 : decode cX4_arrives 1 = .ok (.iload_n 1, 1) := by decide +kernel
theorem dX4_arrives_2 : decode cX4_arrives 2 = .ok (.invokevirtual 81, 3) := by decide +kernel
theorem dX4_arrives_5 : decode cX4_arrives 5 = .ok (.ifCond .ne 13, 3) := by decide +kernel
theorem dX4_arrives_8 : decode cX4_arrives 8 = .ok (.new 23, 3) := by decide +kernel
theorem dX4_arrives_11 : decode cX4_arrives 11 = .ok (.dup, 1) := by decide +kernel
theorem dX4_arrives_12 : decode cX4_arrives 12 = .ok (.ldc 148, 2) := by decide +kernel
theorem dX4_arrives_14 : decode cX4_arrives 14 = .ok (.invokespecial 27, 3) := by decide +kernel
theorem dX4_arrives_17 : decode cX4_arrives 17 = .ok (.athrow, 1) := by decide +kernel
theorem dX4_arrives_18 : decode cX4_arrives 18 = .ok (.aload_n 0, 1) := by decide +kernel
theorem dX4_arrives_19 : decode cX4_arrives 19 = .ok (.getfield 16, 3) := by decide +kernel
theorem dX4_arrives_22 : decode cX4_arrives 22 = .ok (.aload_n 0, 1) := by decide +kernel
theorem dX4_arrives_23 : decode cX4_arrives 23 = .ok (.getfield 10, 3) := by decide +kernel
theorem dX4_arrives_26 : decode cX4_arrives 26 = .ok (.invokevirtual 150, 3) := by decide +kernel
theorem dX4_arrives_29 : decode cX4_arrives 29 = .ok (.aload_n 0, 1) := by decide +kernel
theorem dX4_arrives_30 : decode cX4_arrives 30 = .ok (.getfield 16, 3) := by decide +kernel
theorem dX4_arrives_33 : decode cX4_arrives 33 = .ok (.getfield 86, 3) := by decide +kernel
theorem dX4_arrives_36 : decode cX4_arrives 36 = .ok (.iload_n 1, 1) := by decide +kernel
theorem dX4_arrives_37 : decode cX4_arrives 37 = .ok (.aaload, 1) := by decide +kernel
theorem dX4_arrives_38 : decode cX4_arrives 38 = .ok (.astore_n 2, 1) := by decide +kernel
theorem dX4_arrives_39 : decode cX4_arrives 39 = .ok (.iconst 0, 1) := by decide +kernel
theorem dX4_arrives_40 : decode cX4_arrives 40 = .ok (.istore_n 3, 1) := by decide +kernel
theorem dX4_arrives_41 : decode cX4_arrives 41 = .ok (.iload_n 3, 1) := by decide +kernel
theorem dX4_arrives_42 : decode cX4_arrives 42 = .ok (.sipush 200, 3) := by decide +kernel
theorem dX4_arrives_45 : decode cX4_arrives 45 = .ok (.if_icmp .ge 26, 3) := by decide +kernel
theorem dX4_arrives_48 : decode cX4_arrives 48 = .ok (.aload_n 2, 1) := by decide +kernel
theorem dX4_arrives_49 : decode cX4_arrives 49 = .ok (.getfield 90, 3) := by decide +kernel
theorem dX4_arrives_52 : decode cX4_arrives 52 = .ok (.iconst 2, 1) := by decide +kernel
theorem dX4_arrives_53 : decode cX4_arrives 53 = .ok (.if_icmp .ne 5, 3) := by decide +kernel
theorem dX4_arrives_56 : decode cX4_arrives 56 = .ok (.iload_n 3, 1) := by decide +kernel
theorem dX4_arrives_57 : decode cX4_arrives 57 = .ok (.ireturn, 1) := by decide +kernel
theorem dX4_arrives_58 : decode cX4_arrives 58 = .ok (.aload_n 0, 1) := by decide +kernel
theorem dX4_arrives_59 : decode cX4_arrives 59 = .ok (.getfield 16, 3) := by decide +kernel
theorem dX4_arrives_62 : decode cX4_arrives 62 = .ok (.invokevirtual 154, 3) := by decide +kernel
theorem dX4_arrives_65 : decode cX4_arrives 65 = .ok (.iinc 3 1, 3) := by decide +kernel
theorem dX4_arrives_68 : decode cX4_arrives 68 = .ok (.goto (-27), 3) := by decide +kernel
theorem dX4_arrives_71 : decode cX4_arrives 71 = .ok (.aload_n 2, 1) := by decide +kernel
theorem dX4_arrives_72 : decode cX4_arrives 72 = .ok (.getfield 90, 3) := by decide +kernel
theorem dX4_arrives_75 : decode cX4_arrives 75 = .ok (.iconst 2, 1) := by decide +kernel
theorem dX4_arrives_76 : decode cX4_arrives 76 = .ok (.if_icmp .ne 9, 3) := by decide +kernel
theorem dX4_arrives_79 : decode cX4_arrives 79 = .ok (.sipush 200, 3) := by decide +kernel
theorem dX4_arrives_82 : decode cX4_arrives 82 = .ok (.goto 4, 3) := by decide +kernel
theorem dX4_arrives_85 : decode cX4_arrives 85 = .ok (.iconst (-1), 1) := by decide +kernel
theorem dX4_arrives_86 : decode cX4_arrives 86 = .ok (.ireturn, 1) := by decide +kernel
theorem dX4_foresee_0 : decode cX4_foresee 0 = .ok (.iload_n 1, 1) := by decide +kernel
theorem dX4_foresee_1 : decode cX4_foresee 1 = .ok (.iconst 1, 1) := by decide +kernel
theorem dX4_foresee_2 : decode cX4_foresee 2 = .ok (.bipush 120, 2) := by decide +kernel
theorem dX4_foresee_4 : decode cX4_foresee 4 = .ok (.invokestatic 30, 3) := by decide +kernel
theorem dX4_foresee_7 : decode cX4_foresee 7 = .ok (.ifCond .ne 13, 3) := by decide +kernel
theorem dX4_foresee_10 : decode cX4_foresee 10 = .ok (.new 34, 3) := by decide +kernel
theorem dX4_foresee_13 : decode cX4_foresee 13 = .ok (.dup, 1) := by decide +kernel
theorem dX4_foresee_14 : decode cX4_foresee 14 = .ok (.ldc 139, 2) := by decide +kernel
theorem dX4_foresee_16 : decode cX4_foresee 16 = .ok (.invokespecial 38, 3) := by decide +kernel
theorem dX4_foresee_19 : decode cX4_foresee 19 = .ok (.athrow, 1) := by decide +kernel
theorem dX4_foresee_20 : decode cX4_foresee 20 = .ok (.iload_n 2, 1) := by decide +kernel
theorem dX4_foresee_21 : decode cX4_foresee 21 = .ok (.iconst 0, 1) := by decide +kernel
theorem dX4_foresee_22 : decode cX4_foresee 22 = .ok (.iconst 3, 1) := by decide +kernel
theorem dX4_foresee_23 : decode cX4_foresee 23 = .ok (.invokestatic 30, 3) := by decide +kernel
theorem dX4_foresee_26 : decode cX4_foresee 26 = .ok (.ifCond .ne 13, 3) := by decide +kernel
theorem dX4_foresee_29 : decode cX4_foresee 29 = .ok (.new 23, 3) := by decide +kernel
theorem dX4_foresee_32 : decode cX4_foresee 32 = .ok (.dup, 1) := by decide +kernel
theorem dX4_foresee_33 : decode cX4_foresee 33 = .ok (.ldc 134, 2) := by decide +kernel
theorem dX4_foresee_35 : decode cX4_foresee 35 = .ok (.invokespecial 27, 3) := by decide +kernel
theorem dX4_foresee_38 : decode cX4_foresee 38 = .ok (.athrow, 1) := by decide +kernel
theorem dX4_foresee_39 : decode cX4_foresee 39 = .ok (.aload_n 0, 1) := by decide +kernel
theorem dX4_foresee_40 : decode cX4_foresee 40 = .ok (.getfield 16, 3) := by decide +kernel
theorem dX4_foresee_43 : decode cX4_foresee 43 = .ok (.aload_n 0, 1) := by decide +kernel
theorem dX4_foresee_44 : decode cX4_foresee 44 = .ok (.getfield 10, 3) := by decide +kernel
theorem dX4_foresee_47 : decode cX4_foresee 47 = .ok (.invokevirtual 150, 3) := by decide +kernel
theorem dX4_foresee_50 : decode cX4_foresee 50 = .ok (.aload_n 0, 1) := by decide +kernel
theorem dX4_foresee_51 : decode cX4_foresee 51 = .ok (.getfield 16, 3) := by decide +kernel
theorem dX4_foresee_54 : decode cX4_foresee 54 = .ok (.iload_n 1, 1) := by decide +kernel
theorem dX4_foresee_55 : decode cX4_foresee 55 = .ok (.invokevirtual 144, 3) := by decide +kernel
theorem dX4_foresee_58 : decode cX4_foresee 58 = .ok (.iload_n 2, 1) := by decide +kernel
theorem dX4_foresee_59 : decode cX4_foresee 59 = .ok (.tableswitch 75 0 2 #[25, 43, 59], 25) := by decide +kernel
theorem dX4_foresee_84 : decode cX4_foresee 84 = .ok (.aload_n 0, 1) := by decide +kernel
theorem dX4_foresee_85 : decode cX4_foresee 85 = .ok (.getfield 16, 3) := by decide +kernel
theorem dX4_foresee_88 : decode cX4_foresee 88 = .ok (.iconst 2, 1) := by decide +kernel
theorem dX4_foresee_89 : decode cX4_foresee 89 = .ok (.invokevirtual 141, 3) := by decide +kernel
theorem dX4_foresee_92 : decode cX4_foresee 92 = .ok (.aload_n 0, 1) := by decide +kernel
theorem dX4_foresee_93 : decode cX4_foresee 93 = .ok (.getfield 10, 3) := by decide +kernel
theorem dX4_foresee_96 : decode cX4_foresee 96 = .ok (.iconst 2, 1) := by decide +kernel
theorem dX4_foresee_97 : decode cX4_foresee 97 = .ok (.invokevirtual 141, 3) := by decide +kernel
theorem dX4_foresee_100 : decode cX4_foresee 100 = .ok (.isub, 1) := by decide +kernel
theorem dX4_foresee_101 : decode cX4_foresee 101 = .ok (.ireturn, 1) := by decide +kernel
theorem dX4_foresee_102 : decode cX4_foresee 102 = .ok (.aload_n 0, 1) := by decide +kernel
theorem dX4_foresee_103 : decode cX4_foresee 103 = .ok (.getfield 16, 3) := by decide +kernel
theorem dX4_foresee_106 : decode cX4_foresee 106 = .ok (.invokevirtual 157, 3) := by decide +kernel
theorem dX4_foresee_109 : decode cX4_foresee 109 = .ok (.aload_n 0, 1) := by decide +kernel
theorem dX4_foresee_110 : decode cX4_foresee 110 = .ok (.getfield 10, 3) := by decide +kernel
theorem dX4_foresee_113 : decode cX4_foresee 113 = .ok (.invokevirtual 157, 3) := by decide +kernel
theorem dX4_foresee_116 : decode cX4_foresee 116 = .ok (.isub, 1) := by decide +kernel
theorem dX4_foresee_117 : decode cX4_foresee 117 = .ok (.ireturn, 1) := by decide +kernel
theorem dX4_foresee_118 : decode cX4_foresee 118 = .ok (.aload_n 0, 1) := by decide +kernel
theorem dX4_foresee_119 : decode cX4_foresee 119 = .ok (.getfield 16, 3) := by decide +kernel
theorem dX4_foresee_122 : decode cX4_foresee 122 = .ok (.invokevirtual 161, 3) := by decide +kernel
theorem dX4_foresee_125 : decode cX4_foresee 125 = .ok (.aload_n 0, 1) := by decide +kernel
theorem dX4_foresee_126 : decode cX4_foresee 126 = .ok (.getfield 10, 3) := by decide +kernel
theorem dX4_foresee_129 : decode cX4_foresee 129 = .ok (.invokevirtual 161, 3) := by decide +kernel
theorem dX4_foresee_132 : decode cX4_foresee 132 = .ok (.isub, 1) := by decide +kernel
theorem dX4_foresee_133 : decode cX4_foresee 133 = .ok (.ireturn, 1) := by decide +kernel
theorem dX4_foresee_134 : decode cX4_foresee 134 = .ok (.aload_n 0, 1) := by decide +kernel
theorem dX4_foresee_135 : decode cX4_foresee 135 = .ok (.getfield 16, 3) := by decide +kernel
theorem dX4_foresee_138 : decode cX4_foresee 138 = .ok (.invokevirtual 164, 3) := by decide +kernel
theorem dX4_foresee_141 : decode cX4_foresee 141 = .ok (.ireturn, 1) := by decide +kernel
theorem dX4_advise_0 : decode cX4_advise 0 = .ok (.iload_n 1, 1) := by decide +kernel
theorem dX4_advise_1 : decode cX4_advise 1 = .ok (.iconst 1, 1) := by decide +kernel
theorem dX4_advise_2 : decode cX4_advise 2 = .ok (.bipush 120, 2) := by decide +kernel
theorem dX4_advise_4 : decode cX4_advise 4 = .ok (.invokestatic 30, 3) := by decide +kernel
theorem dX4_advise_7 : decode cX4_advise 7 = .ok (.ifCond .ne 13, 3) := by decide +kernel
theorem dX4_advise_10 : decode cX4_advise 10 = .ok (.new 34, 3) := by decide +kernel
theorem dX4_advise_13 : decode cX4_advise 13 = .ok (.dup, 1) := by decide +kernel
theorem dX4_advise_14 : decode cX4_advise 14 = .ok (.ldc 139, 2) := by decide +kernel
theorem dX4_advise_16 : decode cX4_advise 16 = .ok (.invokespecial 38, 3) := by decide +kernel
theorem dX4_advise_19 : decode cX4_advise 19 = .ok (.athrow, 1) := by decide +kernel
theorem dX4_advise_20 : decode cX4_advise 20 = .ok (.iconst 0, 1) := by decide +kernel
theorem dX4_advise_21 : decode cX4_advise 21 = .ok (.istore_n 2, 1) := by decide +kernel
theorem dX4_advise_22 : decode cX4_advise 22 = .ok (.iconst 0, 1) := by decide +kernel
theorem dX4_advise_23 : decode cX4_advise 23 = .ok (.istore_n 3, 1) := by decide +kernel
theorem dX4_advise_24 : decode cX4_advise 24 = .ok (.iconst 0, 1) := by decide +kernel
theorem dX4_advise_25 : decode cX4_advise 25 = .ok (.istore 4, 2) := by decide +kernel
theorem dX4_advise_27 : decode cX4_advise 27 = .ok (.iload 4, 2) := by decide +kernel
theorem dX4_advise_29 : decode cX4_advise 29 = .ok (.bipush 15, 2) := by decide +kernel
theorem dX4_advise_31 : decode cX4_advise 31 = .ok (.if_icmp .gt 63, 3) := by decide +kernel
theorem dX4_advise_34 : decode cX4_advise 34 = .ok (.aload_n 0, 1) := by decide +kernel
theorem dX4_advise_35 : decode cX4_advise 35 = .ok (.getfield 16, 3) := by decide +kernel
theorem dX4_advise_38 : decode cX4_advise 38 = .ok (.aload_n 0, 1) := by decide +kernel
theorem dX4_advise_39 : decode cX4_advise 39 = .ok (.getfield 10, 3) := by decide +kernel
theorem dX4_advise_42 : decode cX4_advise 42 = .ok (.invokevirtual 150, 3) := by decide +kernel
theorem dX4_advise_45 : decode cX4_advise 45 = .ok (.aload_n 0, 1) := by decide +kernel
theorem dX4_advise_46 : decode cX4_advise 46 = .ok (.getfield 16, 3) := by decide +kernel
theorem dX4_advise_49 : decode cX4_advise 49 = .ok (.iload 4, 2) := by decide +kernel
theorem dX4_advise_51 : decode cX4_advise 51 = .ok (.putfield 54, 3) := by decide +kernel
theorem dX4_advise_54 : decode cX4_advise 54 = .ok (.aload_n 0, 1) := by decide +kernel
theorem dX4_advise_55 : decode cX4_advise 55 = .ok (.getfield 16, 3) := by decide +kernel
theorem dX4_advise_58 : decode cX4_advise 58 = .ok (.iload_n 1, 1) := by decide +kernel
theorem dX4_advise_59 : decode cX4_advise 59 = .ok (.invokevirtual 144, 3) := by decide +kernel
theorem dX4_advise_62 : decode cX4_advise 62 = .ok (.aload_n 0, 1) := by decide +kernel
theorem dX4_advise_63 : decode cX4_advise 63 = .ok (.getfield 16, 3) := by decide +kernel
theorem dX4_advise_66 : decode cX4_advise 66 = .ok (.invokevirtual 161, 3) := by decide +kernel
theorem dX4_advise_69 : decode cX4_advise 69 = .ok (.istore 5, 2) := by decide +kernel
theorem dX4_advise_71 : decode cX4_advise 71 = .ok (.iload 4, 2) := by decide +kernel
theorem dX4_advise_73 : decode cX4_advise 73 = .ok (.ifCond .eq 9, 3) := by decide +kernel
theorem dX4_advise_76 : decode cX4_advise 76 = .ok (.iload 5, 2) := by decide +kernel
theorem dX4_advise_78 : decode cX4_advise 78 = .ok (.iload_n 3, 1) := by decide +kernel
theorem dX4_advise_79 : decode cX4_advise 79 = .ok (.if_icmp .ge 9, 3) := by decide +kernel
theorem dX4_advise_82 : decode cX4_advise 82 = .ok (.iload 4, 2) := by decide +kernel
theorem dX4_advise_84 : decode cX4_advise 84 = .ok (.istore_n 2, 1) := by decide +kernel
theorem dX4_advise_85 : decode cX4_advise 85 = .ok (.iload 5, 2) := by decide +kernel
theorem dX4_advise_87 : decode cX4_advise 87 = .ok (.istore_n 3, 1) := by decide +kernel
theorem dX4_advise_88 : decode cX4_advise 88 = .ok (.iinc 4 1, 3) := by decide +kernel
theorem dX4_advise_91 : decode cX4_advise 91 = .ok (.goto (-64), 3) := by decide +kernel
theorem dX4_advise_94 : decode cX4_advise 94 = .ok (.iload_n 2, 1) := by decide +kernel
theorem dX4_advise_95 : decode cX4_advise 95 = .ok (.ireturn, 1) := by decide +kernel
theorem dX4_digest_0 : decode cX4_digest 0 = .ok (.ldc2_w 167, 3) := by decide +kernel
theorem dX4_digest_3 : decode cX4_digest 3 = .ok (.lstore_n 1, 1) := by decide +kernel
theorem dX4_digest_4 : decode cX4_digest 4 = .ok (.iconst 0, 1) := by decide +kernel
theorem dX4_digest_5 : decode cX4_digest 5 = .ok (.istore_n 3, 1) := by decide +kernel
theorem dX4_digest_6 : decode cX4_digest 6 = .ok (.iload_n 3, 1) := by decide +kernel
theorem dX4_digest_7 : decode cX4_digest 7 = .ok (.bipush 10, 2) := by decide +kernel
theorem dX4_digest_9 : decode cX4_digest 9 = .ok (.if_icmp .ge 25, 3) := by decide +kernel
theorem dX4_digest_12 : decode cX4_digest 12 = .ok (.lload_n 1, 1) := by decide +kernel
theorem dX4_digest_13 : decode cX4_digest 13 = .ok (.ldc2_w 169, 3) := by decide +kernel
theorem dX4_digest_16 : decode cX4_digest 16 = .ok (.lmul, 1) := by decide +kernel
theorem dX4_digest_17 : decode cX4_digest 17 = .ok (.aload_n 0, 1) := by decide +kernel
theorem dX4_digest_18 : decode cX4_digest 18 = .ok (.getfield 10, 3) := by decide +kernel
theorem dX4_digest_21 : decode cX4_digest 21 = .ok (.iload_n 3, 1) := by decide +kernel
theorem dX4_digest_22 : decode cX4_digest 22 = .ok (.invokevirtual 136, 3) := by decide +kernel
theorem dX4_digest_25 : decode cX4_digest 25 = .ok (.i2l, 1) := by decide +kernel
theorem dX4_digest_26 : decode cX4_digest 26 = .ok (.ladd, 1) := by decide +kernel
theorem dX4_digest_27 : decode cX4_digest 27 = .ok (.lstore_n 1, 1) := by decide +kernel
theorem dX4_digest_28 : decode cX4_digest 28 = .ok (.iinc 3 1, 3) := by decide +kernel
theorem dX4_digest_31 : decode cX4_digest 31 = .ok (.goto (-25), 3) := by decide +kernel
theorem dX4_digest_34 : decode cX4_digest 34 = .ok (.iconst 0, 1) := by decide +kernel
theorem dX4_digest_35 : decode cX4_digest 35 = .ok (.istore_n 3, 1) := by decide +kernel
theorem dX4_digest_36 : decode cX4_digest 36 = .ok (.iload_n 3, 1) := by decide +kernel
theorem dX4_digest_37 : decode cX4_digest 37 = .ok (.bipush 10, 2) := by decide +kernel
theorem dX4_digest_39 : decode cX4_digest 39 = .ok (.if_icmp .ge 42, 3) := by decide +kernel
theorem dX4_digest_42 : decode cX4_digest 42 = .ok (.iconst 0, 1) := by decide +kernel
theorem dX4_digest_43 : decode cX4_digest 43 = .ok (.istore 4, 2) := by decide +kernel
theorem dX4_digest_45 : decode cX4_digest 45 = .ok (.iload 4, 2) := by decide +kernel
theorem dX4_digest_47 : decode cX4_digest 47 = .ok (.iconst 5, 1) := by decide +kernel
theorem dX4_digest_48 : decode cX4_digest 48 = .ok (.if_icmp .ge 27, 3) := by decide +kernel
theorem dX4_digest_51 : decode cX4_digest 51 = .ok (.lload_n 1, 1) := by decide +kernel
theorem dX4_digest_52 : decode cX4_digest 52 = .ok (.ldc2_w 169, 3) := by decide +kernel
theorem dX4_digest_55 : decode cX4_digest 55 = .ok (.lmul, 1) := by decide +kernel
theorem dX4_digest_56 : decode cX4_digest 56 = .ok (.aload_n 0, 1) := by decide +kernel
theorem dX4_digest_57 : decode cX4_digest 57 = .ok (.getfield 10, 3) := by decide +kernel
theorem dX4_digest_60 : decode cX4_digest 60 = .ok (.iload_n 3, 1) := by decide +kernel
theorem dX4_digest_61 : decode cX4_digest 61 = .ok (.iload 4, 2) := by decide +kernel
theorem dX4_digest_63 : decode cX4_digest 63 = .ok (.invokevirtual 131, 3) := by decide +kernel
theorem dX4_digest_66 : decode cX4_digest 66 = .ok (.i2l, 1) := by decide +kernel
theorem dX4_digest_67 : decode cX4_digest 67 = .ok (.ladd, 1) := by decide +kernel
theorem dX4_digest_68 : decode cX4_digest 68 = .ok (.lstore_n 1, 1) := by decide +kernel
theorem dX4_digest_69 : decode cX4_digest 69 = .ok (.iinc 4 1, 3) := by decide +kernel
theorem dX4_digest_72 : decode cX4_digest 72 = .ok (.goto (-27), 3) := by decide +kernel
theorem dX4_digest_75 : decode cX4_digest 75 = .ok (.iinc 3 1, 3) := by decide +kernel
theorem dX4_digest_78 : decode cX4_digest 78 = .ok (.goto (-42), 3) := by decide +kernel
theorem dX4_digest_81 : decode cX4_digest 81 = .ok (.iconst 0, 1) := by decide +kernel
theorem dX4_digest_82 : decode cX4_digest 82 = .ok (.istore_n 3, 1) := by decide +kernel
theorem dX4_digest_83 : decode cX4_digest 83 = .ok (.iload_n 3, 1) := by decide +kernel
theorem dX4_digest_84 : decode cX4_digest 84 = .ok (.aload_n 0, 1) := by decide +kernel
theorem dX4_digest_85 : decode cX4_digest 85 = .ok (.getfield 10, 3) := by decide +kernel
theorem dX4_digest_88 : decode cX4_digest 88 = .ok (.getfield 59, 3) := by decide +kernel
theorem dX4_digest_91 : decode cX4_digest 91 = .ok (.if_icmp .ge 47, 3) := by decide +kernel
theorem dX4_digest_94 : decode cX4_digest 94 = .ok (.iconst 0, 1) := by decide +kernel
theorem dX4_digest_95 : decode cX4_digest 95 = .ok (.istore 4, 2) := by decide +kernel
theorem dX4_digest_97 : decode cX4_digest 97 = .ok (.iload 4, 2) := by decide +kernel
theorem dX4_digest_99 : decode cX4_digest 99 = .ok (.bipush 6, 2) := by decide +kernel
theorem dX4_digest_101 : decode cX4_digest 101 = .ok (.if_icmp .ge 31, 3) := by decide +kernel
theorem dX4_digest_104 : decode cX4_digest 104 = .ok (.lload_n 1, 1) := by decide +kernel
theorem dX4_digest_105 : decode cX4_digest 105 = .ok (.ldc2_w 169, 3) := by decide +kernel
theorem dX4_digest_108 : decode cX4_digest 108 = .ok (.lmul, 1) := by decide +kernel
theorem dX4_digest_109 : decode cX4_digest 109 = .ok (.aload_n 0, 1) := by decide +kernel
theorem dX4_digest_110 : decode cX4_digest 110 = .ok (.getfield 10, 3) := by decide +kernel
theorem dX4_digest_113 : decode cX4_digest 113 = .ok (.getfield 116, 3) := by decide +kernel
theorem dX4_digest_116 : decode cX4_digest 116 = .ok (.iload_n 3, 1) := by decide +kernel
theorem dX4_digest_117 : decode cX4_digest 117 = .ok (.aaload, 1) := by decide +kernel
theorem dX4_digest_118 : decode cX4_digest 118 = .ok (.iload 4, 2) := by decide +kernel
theorem dX4_digest_120 : decode cX4_digest 120 = .ok (.invokevirtual 120, 3) := by decide +kernel
theorem dX4_digest_123 : decode cX4_digest 123 = .ok (.i2l, 1) := by decide +kernel
theorem dX4_digest_124 : decode cX4_digest 124 = .ok (.ladd, 1) := by decide +kernel
theorem dX4_digest_125 : decode cX4_digest 125 = .ok (.lstore_n 1, 1) := by decide +kernel
theorem dX4_digest_126 : decode cX4_digest 126 = .ok (.iinc 4 1, 3) := by decide +kernel
theorem dX4_digest_129 : decode cX4_digest 129 = .ok (.goto (-32), 3) := by decide +kernel
theorem dX4_digest_132 : decode cX4_digest 132 = .ok (.iinc 3 1, 3) := by decide +kernel
theorem dX4_digest_135 : decode cX4_digest 135 = .ok (.goto (-52), 3) := by decide +kernel
theorem dX4_digest_138 : decode cX4_digest 138 = .ok (.iconst 0, 1) := by decide +kernel
theorem dX4_digest_139 : decode cX4_digest 139 = .ok (.istore_n 3, 1) := by decide +kernel
theorem dX4_digest_140 : decode cX4_digest 140 = .ok (.iload_n 3, 1) := by decide +kernel
theorem dX4_digest_141 : decode cX4_digest 141 = .ok (.aload_n 0, 1) := by decide +kernel
theorem dX4_digest_142 : decode cX4_digest 142 = .ok (.getfield 10, 3) := by decide +kernel
theorem dX4_digest_145 : decode cX4_digest 145 = .ok (.getfield 73, 3) := by decide +kernel
theorem dX4_digest_148 : decode cX4_digest 148 = .ok (.if_icmp .ge 47, 3) := by decide +kernel
theorem dX4_digest_151 : decode cX4_digest 151 = .ok (.iconst 0, 1) := by decide +kernel
theorem dX4_digest_152 : decode cX4_digest 152 = .ok (.istore 4, 2) := by decide +kernel
theorem dX4_digest_154 : decode cX4_digest 154 = .ok (.iload 4, 2) := by decide +kernel
theorem dX4_digest_156 : decode cX4_digest 156 = .ok (.bipush 7, 2) := by decide +kernel
theorem dX4_digest_158 : decode cX4_digest 158 = .ok (.if_icmp .ge 31, 3) := by decide +kernel
theorem dX4_digest_161 : decode cX4_digest 161 = .ok (.lload_n 1, 1) := by decide +kernel
theorem dX4_digest_162 : decode cX4_digest 162 = .ok (.ldc2_w 169, 3) := by decide +kernel
theorem dX4_digest_165 : decode cX4_digest 165 = .ok (.lmul, 1) := by decide +kernel
theorem dX4_digest_166 : decode cX4_digest 166 = .ok (.aload_n 0, 1) := by decide +kernel
theorem dX4_digest_167 : decode cX4_digest 167 = .ok (.getfield 10, 3) := by decide +kernel
theorem dX4_digest_170 : decode cX4_digest 170 = .ok (.getfield 86, 3) := by decide +kernel
theorem dX4_digest_173 : decode cX4_digest 173 = .ok (.iload_n 3, 1) := by decide +kernel
theorem dX4_digest_174 : decode cX4_digest 174 = .ok (.aaload, 1) := by decide +kernel
theorem dX4_digest_175 : decode cX4_digest 175 = .ok (.iload 4, 2) := by decide +kernel
theorem dX4_digest_177 : decode cX4_digest 177 = .ok (.invokevirtual 128, 3) := by decide +kernel
theorem dX4_digest_180 : decode cX4_digest 180 = .ok (.i2l, 1) := by decide +kernel
theorem dX4_digest_181 : decode cX4_digest 181 = .ok (.ladd, 1) := by decide +kernel
theorem dX4_digest_182 : decode cX4_digest 182 = .ok (.lstore_n 1, 1) := by decide +kernel
theorem dX4_digest_183 : decode cX4_digest 183 = .ok (.iinc 4 1, 3) := by decide +kernel
theorem dX4_digest_186 : decode cX4_digest 186 = .ok (.goto (-32), 3) := by decide +kernel
theorem dX4_digest_189 : decode cX4_digest 189 = .ok (.iinc 3 1, 3) := by decide +kernel
theorem dX4_digest_192 : decode cX4_digest 192 = .ok (.goto (-52), 3) := by decide +kernel
theorem dX4_digest_195 : decode cX4_digest 195 = .ok (.lload_n 1, 1) := by decide +kernel
theorem dX4_digest_196 : decode cX4_digest 196 = .ok (.lreturn, 1) := by decide +kernel
theorem dX4_isWithin_0 : decode cX4_isWithin 0 = .ok (.iload_n 0, 1) := by decide +kernel
theorem dX4_isWithin_1 : decode cX4_isWithin 1 = .ok (.iload_n 1, 1) := by decide +kernel
theorem dX4_isWithin_2 : decode cX4_isWithin 2 = .ok (.if_icmp .lt 12, 3) := by decide +kernel
theorem dX4_isWithin_5 : decode cX4_isWithin 5 = .ok (.iload_n 0, 1) := by decide +kernel
theorem dX4_isWithin_6 : decode cX4_isWithin 6 = .ok (.iload_n 2, 1) := by decide +kernel
theorem dX4_isWithin_7 : decode cX4_isWithin 7 = .ok (.if_icmp .gt 7, 3) := by decide +kernel
theorem dX4_isWithin_10 : decode cX4_isWithin 10 = .ok (.iconst 1, 1) := by decide +kernel
theorem dX4_isWithin_11 : decode cX4_isWithin 11 = .ok (.goto 4, 3) := by decide +kernel
theorem dX4_isWithin_14 : decode cX4_isWithin 14 = .ok (.iconst 0, 1) := by decide +kernel
theorem dX4_isWithin_15 : decode cX4_isWithin 15 = .ok (.ireturn, 1) := by decide +kernel
theorem dX4_isStop_0 : decode cX4_isStop 0 = .ok (.iload_n 0, 1) := by decide +kernel
theorem dX4_isStop_1 : decode cX4_isStop 1 = .ok (.iconst 0, 1) := by decide +kernel
theorem dX4_isStop_2 : decode cX4_isStop 2 = .ok (.bipush 9, 2) := by decide +kernel
theorem dX4_isStop_4 : decode cX4_isStop 4 = .ok (.invokestatic 30, 3) := by decide +kernel
theorem dX4_isStop_7 : decode cX4_isStop 7 = .ok (.ireturn, 1) := by decide +kernel
theorem dX4_isPassenger_0 : decode cX4_isPassenger 0 = .ok (.iload_n 1, 1) := by decide +kernel
theorem dX4_isPassenger_1 : decode cX4_isPassenger 1 = .ok (.iconst 0, 1) := by decide +kernel
theorem dX4_isPassenger_2 : decode cX4_isPassenger 2 = .ok (.aload_n 0, 1) := by decide +kernel
theorem dX4_isPassenger_3 : decode cX4_isPassenger 3 = .ok (.getfield 10, 3) := by decide +kernel
theorem dX4_isPassenger_6 : decode cX4_isPassenger 6 = .ok (.getfield 73, 3) := by decide +kernel
theorem dX4_isPassenger_9 : decode cX4_isPassenger 9 = .ok (.iconst 1, 1) := by decide +kernel
theorem dX4_isPassenger_10 : decode cX4_isPassenger 10 = .ok (.isub, 1) := by decide +kernel
theorem dX4_isPassenger_11 : decode cX4_isPassenger 11 = .ok (.invokestatic 30, 3) := by decide +kernel
theorem dX4_isPassenger_14 : decode cX4_isPassenger 14 = .ok (.ireturn, 1) := by decide +kernel
end
section
theorem dL_below_0 : decode cL_below 0 = .ok (.iload_n 0, 1) := by decide +kernel
theorem dL_below_1 : decode cL_below 1 = .ok (.ldc 7, 2) := by decide +kernel
theorem dL_below_3 : decode cL_below 3 = .ok (.iand, 1) := by decide +kernel
theorem dL_below_4 : decode cL_below 4 = .ok (.iload_n 1, 1) := by decide +kernel
theorem dL_below_5 : decode cL_below 5 = .ok (.irem, 1) := by decide +kernel
theorem dL_below_6 : decode cL_below 6 = .ok (.ireturn, 1) := by decide +kernel
theorem dL_cell_0 : decode cL_cell 0 = .ok (.iload_n 1, 1) := by decide +kernel
theorem dL_cell_1 : decode cL_cell 1 = .ok (.aload_n 0, 1) := by decide +kernel
theorem dL_cell_2 : decode cL_cell 2 = .ok (.arraylength, 1) := by decide +kernel
theorem dL_cell_3 : decode cL_cell 3 = .ok (.if_icmp .ge 9, 3) := by decide +kernel
theorem dL_cell_6 : decode cL_cell 6 = .ok (.aload_n 0, 1) := by decide +kernel
theorem dL_cell_7 : decode cL_cell 7 = .ok (.iload_n 1, 1) := by decide +kernel
theorem dL_cell_8 : decode cL_cell 8 = .ok (.iaload, 1) := by decide +kernel
theorem dL_cell_9 : decode cL_cell 9 = .ok (.goto 9, 3) := by decide +kernel
theorem dL_cell_12 : decode cL_cell 12 = .ok (.ldc 8, 2) := by decide +kernel
theorem dL_cell_14 : decode cL_cell 14 = .ok (.iload_n 1, 1) := by decide +kernel
theorem dL_cell_15 : decode cL_cell 15 = .ok (.iconst 3, 1) := by decide +kernel
theorem dL_cell_16 : decode cL_cell 16 = .ok (.iadd, 1) := by decide +kernel
theorem dL_cell_17 : decode cL_cell 17 = .ok (.imul, 1) := by decide +kernel
theorem dL_cell_18 : decode cL_cell 18 = .ok (.ireturn, 1) := by decide +kernel
theorem dL_line_0 : decode cL_line 0 = .ok (.new 9, 3) := by decide +kernel
theorem dL_line_3 : decode cL_line 3 = .ok (.dup, 1) := by decide +kernel
theorem dL_line_4 : decode cL_line 4 = .ok (.invokespecial 11, 3) := by decide +kernel
theorem dL_line_7 : decode cL_line 7 = .ok (.astore_n 1, 1) := by decide +kernel
theorem dL_line_8 : decode cL_line 8 = .ok (.iconst 0, 1) := by decide +kernel
theorem dL_line_9 : decode cL_line 9 = .ok (.istore_n 2, 1) := by decide +kernel
theorem dL_line_10 : decode cL_line 10 = .ok (.iload_n 2, 1) := by decide +kernel
theorem dL_line_11 : decode cL_line 11 = .ok (.bipush 10, 2) := by decide +kernel
theorem dL_line_13 : decode cL_line 13 = .ok (.if_icmp .ge 73, 3) := by decide +kernel
theorem dL_line_16 : decode cL_line 16 = .ok (.aload_n 0, 1) := by decide +kernel
theorem dL_line_17 : decode cL_line 17 = .ok (.iconst 0, 1) := by decide +kernel
theorem dL_line_18 : decode cL_line 18 = .ok (.invokestatic 12, 3) := by decide +kernel
theorem dL_line_21 : decode cL_line 21 = .ok (.iconst 2, 1) := by decide +kernel
theorem dL_line_22 : decode cL_line 22 = .ok (.iload_n 2, 1) := by decide +kernel
theorem dL_line_23 : decode cL_line 23 = .ok (.imul, 1) := by decide +kernel
theorem dL_line_24 : decode cL_line 24 = .ok (.ishr, 1) := by decide +kernel
theorem dL_line_25 : decode cL_line 25 = .ok (.iconst 3, 1) := by decide +kernel
theorem dL_line_26 : decode cL_line 26 = .ok (.invokestatic 18, 3) := by decide +kernel
theorem dL_line_29 : decode cL_line 29 = .ok (.ifCond .ne 51, 3) := by decide +kernel
theorem dL_line_32 : decode cL_line 32 = .ok (.aload_n 1, 1) := by decide +kernel
theorem dL_line_33 : decode cL_line 33 = .ok (.iload_n 2, 1) := by decide +kernel
theorem dL_line_34 : decode cL_line 34 = .ok (.iconst 1, 1) := by decide +kernel
theorem dL_line_35 : decode cL_line 35 = .ok (.aload_n 0, 1) := by decide +kernel
theorem dL_line_36 : decode cL_line 36 = .ok (.iconst 1, 1) := by decide +kernel
theorem dL_line_37 : decode cL_line 37 = .ok (.invokestatic 12, 3) := by decide +kernel
theorem dL_line_40 : decode cL_line 40 = .ok (.iload_n 2, 1) := by decide +kernel
theorem dL_line_41 : decode cL_line 41 = .ok (.ishr, 1) := by decide +kernel
theorem dL_line_42 : decode cL_line 42 = .ok (.bipush 9, 2) := by decide +kernel
theorem dL_line_44 : decode cL_line 44 = .ok (.invokestatic 18, 3) := by decide +kernel
theorem dL_line_47 : decode cL_line 47 = .ok (.iadd, 1) := by decide +kernel
theorem dL_line_48 : decode cL_line 48 = .ok (.aload_n 0, 1) := by decide +kernel
theorem dL_line_49 : decode cL_line 49 = .ok (.iconst 2, 1) := by decide +kernel
theorem dL_line_50 : decode cL_line 50 = .ok (.invokestatic 12, 3) := by decide +kernel
theorem dL_line_53 : decode cL_line 53 = .ok (.iload_n 2, 1) := by decide +kernel
theorem dL_line_54 : decode cL_line 54 = .ok (.ishr, 1) := by decide +kernel
theorem dL_line_55 : decode cL_line 55 = .ok (.aload_n 0, 1) := by decide +kernel
theorem dL_line_56 : decode cL_line 56 = .ok (.iconst 2, 1) := by decide +kernel
theorem dL_line_57 : decode cL_line 57 = .ok (.invokestatic 12, 3) := by decide +kernel
theorem dL_line_60 : decode cL_line 60 = .ok (.iconst 2, 1) := by decide +kernel
theorem dL_line_61 : decode cL_line 61 = .ok (.invokestatic 18, 3) := by decide +kernel
theorem dL_line_64 : decode cL_line 64 = .ok (.ifCond .ne 8, 3) := by decide +kernel
theorem dL_line_67 : decode cL_line 67 = .ok (.bipush 10, 2) := by decide +kernel
theorem dL_line_69 : decode cL_line 69 = .ok (.goto 4, 3) := by decide +kernel
theorem dL_line_72 : decode cL_line 72 = .ok (.iconst 3, 1) := by decide +kernel
theorem dL_line_73 : decode cL_line 73 = .ok (.invokestatic 18, 3) := by decide +kernel
theorem dL_line_76 : decode cL_line 76 = .ok (.invokevirtual 22, 3) := by decide +kernel
theorem dL_line_79 : decode cL_line 79 = .ok (.pop, 1) := by decide +kernel
theorem dL_line_80 : decode cL_line 80 = .ok (.iinc 2 1, 3) := by decide +kernel
theorem dL_line_83 : decode cL_line 83 = .ok (.goto (-73), 3) := by decide +kernel
theorem dL_line_86 : decode cL_line 86 = .ok (.aload_n 0, 1) := by decide +kernel
theorem dL_line_87 : decode cL_line 87 = .ok (.iconst 3, 1) := by decide +kernel
theorem dL_line_88 : decode cL_line 88 = .ok (.invokestatic 12, 3) := by decide +kernel
theorem dL_line_91 : decode cL_line 91 = .ok (.iconst 2, 1) := by decide +kernel
theorem dL_line_92 : decode cL_line 92 = .ok (.invokestatic 18, 3) := by decide +kernel
theorem dL_line_95 : decode cL_line 95 = .ok (.ifCond .ne 20, 3) := by decide +kernel
theorem dL_line_98 : decode cL_line 98 = .ok (.aload_n 1, 1) := by decide +kernel
theorem dL_line_99 : decode cL_line 99 = .ok (.aload_n 0, 1) := by decide +kernel
theorem dL_line_100 : decode cL_line 100 = .ok (.iconst 3, 1) := by decide +kernel
theorem dL_line_101 : decode cL_line 101 = .ok (.invokestatic 12, 3) := by decide +kernel
theorem dL_line_104 : decode cL_line 104 = .ok (.iconst 2, 1) := by decide +kernel
theorem dL_line_105 : decode cL_line 105 = .ok (.ishr, 1) := by decide +kernel
theorem dL_line_106 : decode cL_line 106 = .ok (.bipush 16, 2) := by decide +kernel
theorem dL_line_108 : decode cL_line 108 = .ok (.invokestatic 18, 3) := by decide +kernel
theorem dL_line_111 : decode cL_line 111 = .ok (.invokevirtual 26, 3) := by decide +kernel
theorem dL_line_114 : decode cL_line 114 = .ok (.pop, 1) := by decide +kernel
theorem dL_line_115 : decode cL_line 115 = .ok (.aload_n 0, 1) := by decide +kernel
theorem dL_line_116 : decode cL_line 116 = .ok (.iconst 4, 1) := by decide +kernel
theorem dL_line_117 : decode cL_line 117 = .ok (.invokestatic 12, 3) := by decide +kernel
theorem dL_line_120 : decode cL_line 120 = .ok (.bipush 7, 2) := by decide +kernel
theorem dL_line_122 : decode cL_line 122 = .ok (.invokestatic 18, 3) := by decide +kernel
theorem dL_line_125 : decode cL_line 125 = .ok (.istore_n 2, 1) := by decide +kernel
theorem dL_line_126 : decode cL_line 126 = .ok (.iconst 0, 1) := by decide +kernel
theorem dL_line_127 : decode cL_line 127 = .ok (.istore_n 3, 1) := by decide +kernel
theorem dL_line_128 : decode cL_line 128 = .ok (.iload_n 3, 1) := by decide +kernel
theorem dL_line_129 : decode cL_line 129 = .ok (.iload_n 2, 1) := by decide +kernel
theorem dL_line_130 : decode cL_line 130 = .ok (.if_icmp .ge 100, 3) := by decide +kernel
theorem dL_line_133 : decode cL_line 133 = .ok (.aload_n 1, 1) := by decide +kernel
theorem dL_line_134 : decode cL_line 134 = .ok (.aload_n 0, 1) := by decide +kernel
theorem dL_line_135 : decode cL_line 135 = .ok (.iconst 5, 1) := by decide +kernel
theorem dL_line_136 : decode cL_line 136 = .ok (.invokestatic 12, 3) := by decide +kernel
theorem dL_line_139 : decode cL_line 139 = .ok (.iconst 3, 1) := by decide +kernel
theorem dL_line_140 : decode cL_line 140 = .ok (.iload_n 3, 1) := by decide +kernel
theorem dL_line_141 : decode cL_line 141 = .ok (.imul, 1) := by decide +kernel
theorem dL_line_142 : decode cL_line 142 = .ok (.ishr, 1) := by decide +kernel
theorem dL_line_143 : decode cL_line 143 = .ok (.bipush 10, 2) := by decide +kernel
theorem dL_line_145 : decode cL_line 145 = .ok (.invokestatic 18, 3) := by decide +kernel
theorem dL_line_148 : decode cL_line 148 = .ok (.iconst 1, 1) := by decide +kernel
theorem dL_line_149 : decode cL_line 149 = .ok (.aload_n 0, 1) := by decide +kernel
theorem dL_line_150 : decode cL_line 150 = .ok (.bipush 6, 2) := by decide +kernel
theorem dL_line_152 : decode cL_line 152 = .ok (.invokestatic 12, 3) := by decide +kernel
theorem dL_line_155 : decode cL_line 155 = .ok (.iconst 2, 1) := by decide +kernel
theorem dL_line_156 : decode cL_line 156 = .ok (.iload_n 3, 1) := by decide +kernel
theorem dL_line_157 : decode cL_line 157 = .ok (.imul, 1) := by decide +kernel
theorem dL_line_158 : decode cL_line 158 = .ok (.ishr, 1) := by decide +kernel
theorem dL_line_159 : decode cL_line 159 = .ok (.aload_n 0, 1) := by decide +kernel
theorem dL_line_160 : decode cL_line 160 = .ok (.bipush 6, 2) := by decide +kernel
theorem dL_line_162 : decode cL_line 162 = .ok (.invokestatic 12, 3) := by decide +kernel
theorem dL_line_165 : decode cL_line 165 = .ok (.iconst 2, 1) := by decide +kernel
theorem dL_line_166 : decode cL_line 166 = .ok (.invokestatic 18, 3) := by decide +kernel
theorem dL_line_169 : decode cL_line 169 = .ok (.ifCond .ne 8, 3) := by decide +kernel
theorem dL_line_172 : decode cL_line 172 = .ok (.bipush 20, 2) := by decide +kernel
theorem dL_line_174 : decode cL_line 174 = .ok (.goto 4, 3) := by decide +kernel
theorem dL_line_177 : decode cL_line 177 = .ok (.iconst 4, 1) := by decide +kernel
theorem dL_line_178 : decode cL_line 178 = .ok (.invokestatic 18, 3) := by decide +kernel
theorem dL_line_181 : decode cL_line 181 = .ok (.iadd, 1) := by decide +kernel
theorem dL_line_182 : decode cL_line 182 = .ok (.invokevirtual 30, 3) := by decide +kernel
theorem dL_line_185 : decode cL_line 185 = .ok (.pop, 1) := by decide +kernel
theorem dL_line_186 : decode cL_line 186 = .ok (.aload_n 0, 1) := by decide +kernel
theorem dL_line_187 : decode cL_line 187 = .ok (.iconst 4, 1) := by decide +kernel
theorem dL_line_188 : decode cL_line 188 = .ok (.invokestatic 12, 3) := by decide +kernel
theorem dL_line_191 : decode cL_line 191 = .ok (.iconst 3, 1) := by decide +kernel
theorem dL_line_192 : decode cL_line 192 = .ok (.iload_n 3, 1) := by decide +kernel
theorem dL_line_193 : decode cL_line 193 = .ok (.iadd, 1) := by decide +kernel
theorem dL_line_194 : decode cL_line 194 = .ok (.ishr, 1) := by decide +kernel
theorem dL_line_195 : decode cL_line 195 = .ok (.iconst 2, 1) := by decide +kernel
theorem dL_line_196 : decode cL_line 196 = .ok (.invokestatic 18, 3) := by decide +kernel
theorem dL_line_199 : decode cL_line 199 = .ok (.ifCond .ne 25, 3) := by decide +kernel
theorem dL_line_202 : decode cL_line 202 = .ok (.aload_n 1, 1) := by decide +kernel
theorem dL_line_203 : decode cL_line 203 = .ok (.iconst 1, 1) := by decide +kernel
theorem dL_line_204 : decode cL_line 204 = .ok (.aload_n 0, 1) := by decide +kernel
theorem dL_line_205 : decode cL_line 205 = .ok (.bipush 7, 2) := by decide +kernel
theorem dL_line_207 : decode cL_line 207 = .ok (.invokestatic 12, 3) := by decide +kernel
theorem dL_line_210 : decode cL_line 210 = .ok (.iconst 2, 1) := by decide +kernel
theorem dL_line_211 : decode cL_line 211 = .ok (.iload_n 3, 1) := by decide +kernel
theorem dL_line_212 : decode cL_line 212 = .ok (.imul, 1) := by decide +kernel
theorem dL_line_213 : decode cL_line 213 = .ok (.ishr, 1) := by decide +kernel
theorem dL_line_214 : decode cL_line 214 = .ok (.bipush 6, 2) := by decide +kernel
theorem dL_line_216 : decode cL_line 216 = .ok (.invokestatic 18, 3) := by decide +kernel
theorem dL_line_219 : decode cL_line 219 = .ok (.iadd, 1) := by decide +kernel
theorem dL_line_220 : decode cL_line 220 = .ok (.invokevirtual 33, 3) := by decide +kernel
theorem dL_line_223 : decode cL_line 223 = .ok (.pop, 1) := by decide +kernel
theorem dL_line_224 : decode cL_line 224 = .ok (.iinc 3 1, 3) := by decide +kernel
theorem dL_line_227 : decode cL_line 227 = .ok (.goto (-99), 3) := by decide +kernel
theorem dL_line_230 : decode cL_line 230 = .ok (.aload_n 0, 1) := by decide +kernel
theorem dL_line_231 : decode cL_line 231 = .ok (.bipush 8, 2) := by decide +kernel
theorem dL_line_233 : decode cL_line 233 = .ok (.invokestatic 12, 3) := by decide +kernel
theorem dL_line_236 : decode cL_line 236 = .ok (.bipush 51, 2) := by decide +kernel
theorem dL_line_238 : decode cL_line 238 = .ok (.invokestatic 18, 3) := by decide +kernel
theorem dL_line_241 : decode cL_line 241 = .ok (.istore_n 3, 1) := by decide +kernel
theorem dL_line_242 : decode cL_line 242 = .ok (.iconst 0, 1) := by decide +kernel
theorem dL_line_243 : decode cL_line 243 = .ok (.istore 4, 2) := by decide +kernel
theorem dL_line_245 : decode cL_line 245 = .ok (.iload 4, 2) := by decide +kernel
theorem dL_line_247 : decode cL_line 247 = .ok (.iload_n 3, 1) := by decide +kernel
theorem dL_line_248 : decode cL_line 248 = .ok (.if_icmp .ge 151, 3) := by decide +kernel
theorem dL_line_251 : decode cL_line 251 = .ok (.aload_n 0, 1) := by decide +kernel
theorem dL_line_252 : decode cL_line 252 = .ok (.bipush 9, 2) := by decide +kernel
theorem dL_line_254 : decode cL_line 254 = .ok (.iload 4, 2) := by decide +kernel
theorem dL_line_256 : decode cL_line 256 = .ok (.bipush 6, 2) := by decide +kernel
theorem dL_line_258 : decode cL_line 258 = .ok (.irem, 1) := by decide +kernel
theorem dL_line_259 : decode cL_line 259 = .ok (.iadd, 1) := by decide +kernel
theorem dL_line_260 : decode cL_line 260 = .ok (.invokestatic 12, 3) := by decide +kernel
theorem dL_line_263 : decode cL_line 263 = .ok (.iload 4, 2) := by decide +kernel
theorem dL_line_265 : decode cL_line 265 = .ok (.bipush 6, 2) := by decide +kernel
theorem dL_line_267 : decode cL_line 267 = .ok (.idiv, 1) := by decide +kernel
theorem dL_line_268 : decode cL_line 268 = .ok (.iconst 3, 1) := by decide +kernel
theorem dL_line_269 : decode cL_line 269 = .ok (.imul, 1) := by decide +kernel
theorem dL_line_270 : decode cL_line 270 = .ok (.ishr, 1) := by decide +kernel
theorem dL_line_271 : decode cL_line 271 = .ok (.bipush 29, 2) := by decide +kernel
theorem dL_line_273 : decode cL_line 273 = .ok (.iload 4, 2) := by decide +kernel
theorem dL_line_275 : decode cL_line 275 = .ok (.imul, 1) := by decide +kernel
theorem dL_line_276 : decode cL_line 276 = .ok (.iadd, 1) := by decide +kernel
theorem dL_line_277 : decode cL_line 277 = .ok (.istore 5, 2) := by decide +kernel
theorem dL_line_279 : decode cL_line 279 = .ok (.iload 5, 2) := by decide +kernel
theorem dL_line_281 : decode cL_line 281 = .ok (.iload 5, 2) := by decide +kernel
theorem dL_line_283 : decode cL_line 283 = .ok (.bipush 6, 2) := by decide +kernel
theorem dL_line_285 : decode cL_line 285 = .ok (.ishr, 1) := by decide +kernel
theorem dL_line_286 : decode cL_line 286 = .ok (.iconst 2, 1) := by decide +kernel
theorem dL_line_287 : decode cL_line 287 = .ok (.invokestatic 18, 3) := by decide +kernel
theorem dL_line_290 : decode cL_line 290 = .ok (.ifCond .ne 8, 3) := by decide +kernel
theorem dL_line_293 : decode cL_line 293 = .ok (.bipush 10, 2) := by decide +kernel
theorem dL_line_295 : decode cL_line 295 = .ok (.goto 4, 3) := by decide +kernel
theorem dL_line_298 : decode cL_line 298 = .ok (.iconst 3, 1) := by decide +kernel
theorem dL_line_299 : decode cL_line 299 = .ok (.invokestatic 18, 3) := by decide +kernel
theorem dL_line_302 : decode cL_line 302 = .ok (.istore 6, 2) := by decide +kernel
theorem dL_line_304 : decode cL_line 304 = .ok (.aload_n 1, 1) := by decide +kernel
theorem dL_line_305 : decode cL_line 305 = .ok (.iload 6, 2) := by decide +kernel
theorem dL_line_307 : decode cL_line 307 = .ok (.iload 6, 2) := by decide +kernel
theorem dL_line_309 : decode cL_line 309 = .ok (.iconst 1, 1) := by decide +kernel
theorem dL_line_310 : decode cL_line 310 = .ok (.iadd, 1) := by decide +kernel
theorem dL_line_311 : decode cL_line 311 = .ok (.iload 5, 2) := by decide +kernel
theorem dL_line_313 : decode cL_line 313 = .ok (.iconst 3, 1) := by decide +kernel
theorem dL_line_314 : decode cL_line 314 = .ok (.ishr, 1) := by decide +kernel
theorem dL_line_315 : decode cL_line 315 = .ok (.bipush 9, 2) := by decide +kernel
theorem dL_line_317 : decode cL_line 317 = .ok (.invokestatic 18, 3) := by decide +kernel
theorem dL_line_320 : decode cL_line 320 = .ok (.iadd, 1) := by decide +kernel
theorem dL_line_321 : decode cL_line 321 = .ok (.bipush 10, 2) := by decide +kernel
theorem dL_line_323 : decode cL_line 323 = .ok (.irem, 1) := by decide +kernel
theorem dL_line_324 : decode cL_line 324 = .ok (.invokevirtual 36, 3) := by decide +kernel
theorem dL_line_327 : decode cL_line 327 = .ok (.pop, 1) := by decide +kernel
theorem dL_line_328 : decode cL_line 328 = .ok (.iload 5, 2) := by decide +kernel
theorem dL_line_330 : decode cL_line 330 = .ok (.iconst 5, 1) := by decide +kernel
theorem dL_line_331 : decode cL_line 331 = .ok (.ishr, 1) := by decide +kernel
theorem dL_line_332 : decode cL_line 332 = .ok (.iconst 4, 1) := by decide +kernel
theorem dL_line_333 : decode cL_line 333 = .ok (.invokestatic 18, 3) := by decide +kernel
theorem dL_line_336 : decode cL_line 336 = .ok (.ifCond .ne 20, 3) := by decide +kernel
theorem dL_line_339 : decode cL_line 339 = .ok (.aload_n 1, 1) := by decide +kernel
theorem dL_line_340 : decode cL_line 340 = .ok (.iconst 1, 1) := by decide +kernel
theorem dL_line_341 : decode cL_line 341 = .ok (.iload 5, 2) := by decide +kernel
theorem dL_line_343 : decode cL_line 343 = .ok (.bipush 7, 2) := by decide +kernel
theorem dL_line_345 : decode cL_line 345 = .ok (.ishr, 1) := by decide +kernel
theorem dL_line_346 : decode cL_line 346 = .ok (.bipush 8, 2) := by decide +kernel
theorem dL_line_348 : decode cL_line 348 = .ok (.invokestatic 18, 3) := by decide +kernel
theorem dL_line_351 : decode cL_line 351 = .ok (.iadd, 1) := by decide +kernel
theorem dL_line_352 : decode cL_line 352 = .ok (.invokevirtual 33, 3) := by decide +kernel
theorem dL_line_355 : decode cL_line 355 = .ok (.pop, 1) := by decide +kernel
theorem dL_line_356 : decode cL_line 356 = .ok (.iload 5, 2) := by decide +kernel
theorem dL_line_358 : decode cL_line 358 = .ok (.iconst 4, 1) := by decide +kernel
theorem dL_line_359 : decode cL_line 359 = .ok (.ishr, 1) := by decide +kernel
theorem dL_line_360 : decode cL_line 360 = .ok (.iconst 3, 1) := by decide +kernel
theorem dL_line_361 : decode cL_line 361 = .ok (.invokestatic 18, 3) := by decide +kernel
theorem dL_line_364 : decode cL_line 364 = .ok (.ifCond .ne 29, 3) := by decide +kernel
theorem dL_line_367 : decode cL_line 367 = .ok (.aload_n 1, 1) := by decide +kernel
theorem dL_line_368 : decode cL_line 368 = .ok (.iload 5, 2) := by decide +kernel
theorem dL_line_370 : decode cL_line 370 = .ok (.iconst 2, 1) := by decide +kernel
theorem dL_line_371 : decode cL_line 371 = .ok (.ishr, 1) := by decide +kernel
theorem dL_line_372 : decode cL_line 372 = .ok (.iload 4, 2) := by decide +kernel
theorem dL_line_374 : decode cL_line 374 = .ok (.iconst 1, 1) := by decide +kernel
theorem dL_line_375 : decode cL_line 375 = .ok (.iadd, 1) := by decide +kernel
theorem dL_line_376 : decode cL_line 376 = .ok (.invokestatic 18, 3) := by decide +kernel
theorem dL_line_379 : decode cL_line 379 = .ok (.iload 5, 2) := by decide +kernel
theorem dL_line_381 : decode cL_line 381 = .ok (.bipush 8, 2) := by decide +kernel
theorem dL_line_383 : decode cL_line 383 = .ok (.ishr, 1) := by decide +kernel
theorem dL_line_384 : decode cL_line 384 = .ok (.bipush 10, 2) := by decide +kernel
theorem dL_line_386 : decode cL_line 386 = .ok (.invokestatic 18, 3) := by decide +kernel
theorem dL_line_389 : decode cL_line 389 = .ok (.invokestatic 39, 3) := by decide +kernel
theorem dL_line_392 : decode cL_line 392 = .ok (.pop, 1) := by decide +kernel
theorem dL_line_393 : decode cL_line 393 = .ok (.iinc 4 1, 3) := by decide +kernel
theorem dL_line_396 : decode cL_line 396 = .ok (.goto (-151), 3) := by decide +kernel
theorem dL_line_399 : decode cL_line 399 = .ok (.aload_n 1, 1) := by decide +kernel
theorem dL_line_400 : decode cL_line 400 = .ok (.areturn, 1) := by decide +kernel
theorem dL_change_0 : decode cL_change 0 = .ok (.aload_n 0, 1) := by decide +kernel
theorem dL_change_1 : decode cL_change 1 = .ok (.iload_n 1, 1) := by decide +kernel
theorem dL_change_2 : decode cL_change 2 = .ok (.iload_n 2, 1) := by decide +kernel
theorem dL_change_3 : decode cL_change 3 = .ok (.invokevirtual 43, 3) := by decide +kernel
theorem dL_change_6 : decode cL_change 6 = .ok (.ifCond .eq 7, 3) := by decide +kernel
theorem dL_change_9 : decode cL_change 9 = .ok (.iconst 1, 1) := by decide +kernel
theorem dL_change_10 : decode cL_change 10 = .ok (.goto 4, 3) := by decide +kernel
theorem dL_change_13 : decode cL_change 13 = .ok (.iconst 0, 1) := by decide +kernel
theorem dL_change_14 : decode cL_change 14 = .ok (.ireturn, 1) := by decide +kernel
theorem dL_change_15 : decode cL_change 15 = .ok (.astore_n 3, 1) := by decide +kernel
theorem dL_change_16 : decode cL_change 16 = .ok (.iconst (-1), 1) := by decide +kernel
theorem dL_change_17 : decode cL_change 17 = .ok (.ireturn, 1) := by decide +kernel
theorem dL_law_0 : decode cL_law 0 = .ok (.aload_n 0, 1) := by decide +kernel
theorem dL_law_1 : decode cL_law 1 = .ok (.invokestatic 48, 3) := by decide +kernel
theorem dL_law_4 : decode cL_law 4 = .ok (.astore_n 1, 1) := by decide +kernel
theorem dL_law_5 : decode cL_law 5 = .ok (.iconst 0, 1) := by decide +kernel
theorem dL_law_6 : decode cL_law 6 = .ok (.istore_n 2, 1) := by decide +kernel
theorem dL_law_7 : decode cL_law 7 = .ok (.iload_n 2, 1) := by decide +kernel
theorem dL_law_8 : decode cL_law 8 = .ok (.bipush 50, 2) := by decide +kernel
theorem dL_law_10 : decode cL_law 10 = .ok (.if_icmp .ge 1678, 3) := by decide +kernel
theorem dL_law_13 : decode cL_law 13 = .ok (.aload_n 0, 1) := by decide +kernel
theorem dL_law_14 : decode cL_law 14 = .ok (.iload_n 2, 1) := by decide +kernel
theorem dL_law_15 : decode cL_law 15 = .ok (.bipush 16, 2) := by decide +kernel
theorem dL_law_17 : decode cL_law 17 = .ok (.irem, 1) := by decide +kernel
theorem dL_law_18 : decode cL_law 18 = .ok (.invokestatic 12, 3) := by decide +kernel
theorem dL_law_21 : decode cL_law 21 = .ok (.iload_n 2, 1) := by decide +kernel
theorem dL_law_22 : decode cL_law 22 = .ok (.bipush 16, 2) := by decide +kernel
theorem dL_law_24 : decode cL_law 24 = .ok (.idiv, 1) := by decide +kernel
theorem dL_law_25 : decode cL_law 25 = .ok (.iconst 5, 1) := by decide +kernel
theorem dL_law_26 : decode cL_law 26 = .ok (.imul, 1) := by decide +kernel
theorem dL_law_27 : decode cL_law 27 = .ok (.ishr, 1) := by decide +kernel
theorem dL_law_28 : decode cL_law 28 = .ok (.istore_n 3, 1) := by decide +kernel
theorem dL_law_29 : decode cL_law 29 = .ok (.iload_n 3, 1) := by decide +kernel
theorem dL_law_30 : decode cL_law 30 = .ok (.bipush 8, 2) := by decide +kernel
theorem dL_law_32 : decode cL_law 32 = .ok (.invokestatic 18, 3) := by decide +kernel
theorem dL_law_35 : decode cL_law 35 = .ok (.tableswitch 256 0 4 #[33, 52, 90, 145, 145], 33) := by decide +kernel
theorem dL_law_68 : decode cL_law 68 = .ok (.aload_n 1, 1) := by decide +kernel
theorem dL_law_69 : decode cL_law 69 = .ok (.iload_n 3, 1) := by decide +kernel
theorem dL_law_70 : decode cL_law 70 = .ok (.iconst 4, 1) := by decide +kernel
theorem dL_law_71 : decode cL_law 71 = .ok (.ishr, 1) := by decide +kernel
theorem dL_law_72 : decode cL_law 72 = .ok (.bipush 16, 2) := by decide +kernel
theorem dL_law_74 : decode cL_law 74 = .ok (.invokestatic 18, 3) := by decide +kernel
theorem dL_law_77 : decode cL_law 77 = .ok (.invokevirtual 26, 3) := by decide +kernel
theorem dL_law_80 : decode cL_law 80 = .ok (.bipush 15, 2) := by decide +kernel
theorem dL_law_82 : decode cL_law 82 = .ok (.if_icmp .le 209, 3) := by decide +kernel
theorem dL_law_85 : decode cL_law 85 = .ok (.iconst 0, 1) := by decide +kernel
theorem dL_law_86 : decode cL_law 86 = .ok (.ireturn, 1) := by decide +kernel
theorem dL_law_87 : decode cL_law 87 = .ok (.aload_n 1, 1) := by decide +kernel
theorem dL_law_88 : decode cL_law 88 = .ok (.iload_n 3, 1) := by decide +kernel
theorem dL_law_89 : decode cL_law 89 = .ok (.iconst 4, 1) := by decide +kernel
theorem dL_law_90 : decode cL_law 90 = .ok (.ishr, 1) := by decide +kernel
theorem dL_law_91 : decode cL_law 91 = .ok (.bipush 10, 2) := by decide +kernel
theorem dL_law_93 : decode cL_law 93 = .ok (.invokestatic 18, 3) := by decide +kernel
theorem dL_law_96 : decode cL_law 96 = .ok (.iconst 1, 1) := by decide +kernel
theorem dL_law_97 : decode cL_law 97 = .ok (.iload_n 3, 1) := by decide +kernel
theorem dL_law_98 : decode cL_law 98 = .ok (.bipush 6, 2) := by decide +kernel
theorem dL_law_100 : decode cL_law 100 = .ok (.ishr, 1) := by decide +kernel
theorem dL_law_101 : decode cL_law 101 = .ok (.bipush 9, 2) := by decide +kernel
theorem dL_law_103 : decode cL_law 103 = .ok (.invokestatic 18, 3) := by decide +kernel
theorem dL_law_106 : decode cL_law 106 = .ok (.iadd, 1) := by decide +kernel
theorem dL_law_107 : decode cL_law 107 = .ok (.iload_n 3, 1) := by decide +kernel
theorem dL_law_108 : decode cL_law 108 = .ok (.iconst 5, 1) := by decide +kernel
theorem dL_law_109 : decode cL_law 109 = .ok (.ishr, 1) := by decide +kernel
theorem dL_law_110 : decode cL_law 110 = .ok (.bipush 10, 2) := by decide +kernel
theorem dL_law_112 : decode cL_law 112 = .ok (.invokestatic 18, 3) := by decide +kernel
theorem dL_law_115 : decode cL_law 115 = .ok (.invokevirtual 22, 3) := by decide +kernel
theorem dL_law_118 : decode cL_law 118 = .ok (.bipush 10, 2) := by decide +kernel
theorem dL_law_120 : decode cL_law 120 = .ok (.if_icmp .ge 171, 3) := by decide +kernel
theorem dL_law_123 : decode cL_law 123 = .ok (.iconst 0, 1) := by decide +kernel
theorem dL_law_124 : decode cL_law 124 = .ok (.ireturn, 1) := by decide +kernel
theorem dL_law_125 : decode cL_law 125 = .ok (.iload_n 3, 1) := by decide +kernel
theorem dL_law_126 : decode cL_law 126 = .ok (.iconst 4, 1) := by decide +kernel
theorem dL_law_127 : decode cL_law 127 = .ok (.ishr, 1) := by decide +kernel
theorem dL_law_128 : decode cL_law 128 = .ok (.bipush 10, 2) := by decide +kernel
theorem dL_law_130 : decode cL_law 130 = .ok (.invokestatic 18, 3) := by decide +kernel
theorem dL_law_133 : decode cL_law 133 = .ok (.istore 4, 2) := by decide +kernel
theorem dL_law_135 : decode cL_law 135 = .ok (.aload_n 1, 1) := by decide +kernel
theorem dL_law_136 : decode cL_law 136 = .ok (.iconst 3, 1) := by decide +kernel
theorem dL_law_137 : decode cL_law 137 = .ok (.invokevirtual 52, 3) := by decide +kernel
theorem dL_law_140 : decode cL_law 140 = .ok (.bipush 50, 2) := by decide +kernel
theorem dL_law_142 : decode cL_law 142 = .ok (.if_icmp .ge 149, 3) := by decide +kernel
theorem dL_law_145 : decode cL_law 145 = .ok (.aload_n 1, 1) := by decide +kernel
theorem dL_law_146 : decode cL_law 146 = .ok (.iload 4, 2) := by decide +kernel
theorem dL_law_148 : decode cL_law 148 = .ok (.iload 4, 2) := by decide +kernel
theorem dL_law_150 : decode cL_law 150 = .ok (.iconst 1, 1) := by decide +kernel
theorem dL_law_151 : decode cL_law 151 = .ok (.iadd, 1) := by decide +kernel
theorem dL_law_152 : decode cL_law 152 = .ok (.iload_n 3, 1) := by decide +kernel
theorem dL_law_153 : decode cL_law 153 = .ok (.bipush 6, 2) := by decide +kernel
theorem dL_law_155 : decode cL_law 155 = .ok (.ishr, 1) := by decide +kernel
theorem dL_law_156 : decode cL_law 156 = .ok (.bipush 9, 2) := by decide +kernel
theorem dL_law_158 : decode cL_law 158 = .ok (.invokestatic 18, 3) := by decide +kernel
theorem dL_law_161 : decode cL_law 161 = .ok (.iadd, 1) := by decide +kernel
theorem dL_law_162 : decode cL_law 162 = .ok (.bipush 10, 2) := by decide +kernel
theorem dL_law_164 : decode cL_law 164 = .ok (.irem, 1) := by decide +kernel
theorem dL_law_165 : decode cL_law 165 = .ok (.invokevirtual 36, 3) := by decide +kernel
theorem dL_law_168 : decode cL_law 168 = .ok (.aload_n 1, 1) := by decide +kernel
theorem dL_law_169 : decode cL_law 169 = .ok (.iconst 3, 1) := by decide +kernel
theorem dL_law_170 : decode cL_law 170 = .ok (.invokevirtual 52, 3) := by decide +kernel
theorem dL_law_173 : decode cL_law 173 = .ok (.iconst 1, 1) := by decide +kernel
theorem dL_law_174 : decode cL_law 174 = .ok (.isub, 1) := by decide +kernel
theorem dL_law_175 : decode cL_law 175 = .ok (.if_icmp .eq 116, 3) := by decide +kernel
theorem dL_law_178 : decode cL_law 178 = .ok (.iconst 0, 1) := by decide +kernel
theorem dL_law_179 : decode cL_law 179 = .ok (.ireturn, 1) := by decide +kernel
theorem dL_law_180 : decode cL_law 180 = .ok (.aload_n 1, 1) := by decide +kernel
theorem dL_law_181 : decode cL_law 181 = .ok (.iconst 3, 1) := by decide +kernel
theorem dL_law_182 : decode cL_law 182 = .ok (.invokevirtual 52, 3) := by decide +kernel
theorem dL_law_185 : decode cL_law 185 = .ok (.ifCond .ne 6, 3) := by decide +kernel
theorem dL_law_188 : decode cL_law 188 = .ok (.goto 103, 3) := by decide +kernel
theorem dL_law_191 : decode cL_law 191 = .ok (.iload_n 3, 1) := by decide +kernel
theorem dL_law_192 : decode cL_law 192 = .ok (.iconst 4, 1) := by decide +kernel
theorem dL_law_193 : decode cL_law 193 = .ok (.ishr, 1) := by decide +kernel
theorem dL_law_194 : decode cL_law 194 = .ok (.aload_n 1, 1) := by decide +kernel
theorem dL_law_195 : decode cL_law 195 = .ok (.iconst 3, 1) := by decide +kernel
theorem dL_law_196 : decode cL_law 196 = .ok (.invokevirtual 52, 3) := by decide +kernel
theorem dL_law_199 : decode cL_law 199 = .ok (.invokestatic 18, 3) := by decide +kernel
theorem dL_law_202 : decode cL_law 202 = .ok (.istore 4, 2) := by decide +kernel
theorem dL_law_204 : decode cL_law 204 = .ok (.iload_n 3, 1) := by decide +kernel
theorem dL_law_205 : decode cL_law 205 = .ok (.bipush 6, 2) := by decide +kernel
theorem dL_law_207 : decode cL_law 207 = .ok (.ishr, 1) := by decide +kernel
theorem dL_law_208 : decode cL_law 208 = .ok (.bipush 10, 2) := by decide +kernel
theorem dL_law_210 : decode cL_law 210 = .ok (.invokestatic 18, 3) := by decide +kernel
theorem dL_law_213 : decode cL_law 213 = .ok (.istore 5, 2) := by decide +kernel
theorem dL_law_215 : decode cL_law 215 = .ok (.aload_n 1, 1) := by decide +kernel
theorem dL_law_216 : decode cL_law 216 = .ok (.iload 4, 2) := by decide +kernel
theorem dL_law_218 : decode cL_law 218 = .ok (.iconst 0, 1) := by decide +kernel
theorem dL_law_219 : decode cL_law 219 = .ok (.invokevirtual 55, 3) := by decide +kernel
theorem dL_law_222 : decode cL_law 222 = .ok (.iconst 2, 1) := by decide +kernel
theorem dL_law_223 : decode cL_law 223 = .ok (.if_icmp .ne 19, 3) := by decide +kernel
theorem dL_law_226 : decode cL_law 226 = .ok (.aload_n 1, 1) := by decide +kernel
theorem dL_law_227 : decode cL_law 227 = .ok (.iload 4, 2) := by decide +kernel
theorem dL_law_229 : decode cL_law 229 = .ok (.iconst 1, 1) := by decide +kernel
theorem dL_law_230 : decode cL_law 230 = .ok (.invokevirtual 55, 3) := by decide +kernel
theorem dL_law_233 : decode cL_law 233 = .ok (.iload 5, 2) := by decide +kernel
theorem dL_law_235 : decode cL_law 235 = .ok (.if_icmp .eq 7, 3) := by decide +kernel
theorem dL_law_238 : decode cL_law 238 = .ok (.iconst 1, 1) := by decide +kernel
theorem dL_law_239 : decode cL_law 239 = .ok (.goto 4, 3) := by decide +kernel
theorem dL_law_242 : decode cL_law 242 = .ok (.iconst 0, 1) := by decide +kernel
theorem dL_law_243 : decode cL_law 243 = .ok (.istore 6, 2) := by decide +kernel
theorem dL_law_245 : decode cL_law 245 = .ok (.aload_n 1, 1) := by decide +kernel
theorem dL_law_246 : decode cL_law 246 = .ok (.iload 4, 2) := by decide +kernel
theorem dL_law_248 : decode cL_law 248 = .ok (.iload 5, 2) := by decide +kernel
theorem dL_law_250 : decode cL_law 250 = .ok (.invokestatic 39, 3) := by decide +kernel
theorem dL_law_253 : decode cL_law 253 = .ok (.iload 6, 2) := by decide +kernel
theorem dL_law_255 : decode cL_law 255 = .ok (.ifCond .ne 7, 3) := by decide +kernel
theorem dL_law_258 : decode cL_law 258 = .ok (.iconst (-1), 1) := by decide +kernel
theorem dL_law_259 : decode cL_law 259 = .ok (.goto 27, 3) := by decide +kernel
theorem dL_law_262 : decode cL_law 262 = .ok (.aload_n 1, 1) := by decide +kernel
theorem dL_law_263 : decode cL_law 263 = .ok (.iconst 0, 1) := by decide +kernel
theorem dL_law_264 : decode cL_law 264 = .ok (.invokevirtual 52, 3) := by decide +kernel
theorem dL_law_267 : decode cL_law 267 = .ok (.aload_n 1, 1) := by decide +kernel
theorem dL_law_268 : decode cL_law 268 = .ok (.iload 4, 2) := by decide +kernel
theorem dL_law_270 : decode cL_law 270 = .ok (.bipush 6, 2) := by decide +kernel
theorem dL_law_272 : decode cL_law 272 = .ok (.invokevirtual 55, 3) := by decide +kernel
theorem dL_law_275 : decode cL_law 275 = .ok (.isub, 1) := by decide +kernel
theorem dL_law_276 : decode cL_law 276 = .ok (.bipush 20, 2) := by decide +kernel
theorem dL_law_278 : decode cL_law 278 = .ok (.if_icmp .le 7, 3) := by decide +kernel
theorem dL_law_281 : decode cL_law 281 = .ok (.iconst 0, 1) := by decide +kernel
theorem dL_law_282 : decode cL_law 282 = .ok (.goto 4, 3) := by decide +kernel
theorem dL_law_285 : decode cL_law 285 = .ok (.iconst 1, 1) := by decide +kernel
theorem dL_law_286 : decode cL_law 286 = .ok (.if_icmp .eq 5, 3) := by decide +kernel
theorem dL_law_289 : decode cL_law 289 = .ok (.iconst 0, 1) := by decide +kernel
theorem dL_law_290 : decode cL_law 290 = .ok (.ireturn, 1) := by decide +kernel
theorem dL_law_291 : decode cL_law 291 = .ok (.aload_n 1, 1) := by decide +kernel
theorem dL_law_292 : decode cL_law 292 = .ok (.iconst 3, 1) := by decide +kernel
theorem dL_law_293 : decode cL_law 293 = .ok (.invokevirtual 52, 3) := by decide +kernel
theorem dL_law_296 : decode cL_law 296 = .ok (.istore 4, 2) := by decide +kernel
theorem dL_law_298 : decode cL_law 298 = .ok (.aload_n 1, 1) := by decide +kernel
theorem dL_law_299 : decode cL_law 299 = .ok (.iconst 2, 1) := by decide +kernel
theorem dL_law_300 : decode cL_law 300 = .ok (.invokevirtual 52, 3) := by decide +kernel
theorem dL_law_303 : decode cL_law 303 = .ok (.istore 5, 2) := by decide +kernel
theorem dL_law_305 : decode cL_law 305 = .ok (.aload_n 1, 1) := by decide +kernel
theorem dL_law_306 : decode cL_law 306 = .ok (.iconst 1, 1) := by decide +kernel
theorem dL_law_307 : decode cL_law 307 = .ok (.invokevirtual 52, 3) := by decide +kernel
theorem dL_law_310 : decode cL_law 310 = .ok (.istore 6, 2) := by decide +kernel
theorem dL_law_312 : decode cL_law 312 = .ok (.aload_n 1, 1) := by decide +kernel
theorem dL_law_313 : decode cL_law 313 = .ok (.iconst 0, 1) := by decide +kernel
theorem dL_law_314 : decode cL_law 314 = .ok (.invokevirtual 52, 3) := by decide +kernel
theorem dL_law_317 : decode cL_law 317 = .ok (.istore 7, 2) := by decide +kernel
theorem dL_law_319 : decode cL_law 319 = .ok (.iload 4, 2) := by decide +kernel
theorem dL_law_321 : decode cL_law 321 = .ok (.bipush 7, 2) := by decide +kernel
theorem dL_law_323 : decode cL_law 323 = .ok (.multianewarray 58 2, 4) := by decide +kernel
theorem dL_law_327 : decode cL_law 327 = .ok (.astore 8, 2) := by decide +kernel
theorem dL_law_329 : decode cL_law 329 = .ok (.iconst 0, 1) := by decide +kernel
theorem dL_law_330 : decode cL_law 330 = .ok (.istore 9, 2) := by decide +kernel
theorem dL_law_332 : decode cL_law 332 = .ok (.iload 9, 2) := by decide +kernel
theorem dL_law_334 : decode cL_law 334 = .ok (.iload 4, 2) := by decide +kernel
theorem dL_law_336 : decode cL_law 336 = .ok (.if_icmp .ge 41, 3) := by decide +kernel
theorem dL_law_339 : decode cL_law 339 = .ok (.iconst 0, 1) := by decide +kernel
theorem dL_law_340 : decode cL_law 340 = .ok (.istore 10, 2) := by decide +kernel
theorem dL_law_342 : decode cL_law 342 = .ok (.iload 10, 2) := by decide +kernel
theorem dL_law_344 : decode cL_law 344 = .ok (.bipush 7, 2) := by decide +kernel
theorem dL_law_346 : decode cL_law 346 = .ok (.if_icmp .ge 25, 3) := by decide +kernel
theorem dL_law_349 : decode cL_law 349 = .ok (.aload 8, 2) := by decide +kernel
theorem dL_law_351 : decode cL_law 351 = .ok (.iload 9, 2) := by decide +kernel
theorem dL_law_353 : decode cL_law 353 = .ok (.aaload, 1) := by decide +kernel
theorem dL_law_354 : decode cL_law 354 = .ok (.iload 10, 2) := by decide +kernel
theorem dL_law_356 : decode cL_law 356 = .ok (.aload_n 1, 1) := by decide +kernel
theorem dL_law_357 : decode cL_law 357 = .ok (.iload 9, 2) := by decide +kernel
theorem dL_law_359 : decode cL_law 359 = .ok (.iload 10, 2) := by decide +kernel
theorem dL_law_361 : decode cL_law 361 = .ok (.invokevirtual 55, 3) := by decide +kernel
theorem dL_law_364 : decode cL_law 364 = .ok (.iastore, 1) := by decide +kernel
theorem dL_law_365 : decode cL_law 365 = .ok (.iinc 10 1, 3) := by decide +kernel
theorem dL_law_368 : decode cL_law 368 = .ok (.goto (-26), 3) := by decide +kernel
theorem dL_law_371 : decode cL_law 371 = .ok (.iinc 9 1, 3) := by decide +kernel
theorem dL_law_374 : decode cL_law 374 = .ok (.goto (-42), 3) := by decide +kernel
theorem dL_law_377 : decode cL_law 377 = .ok (.iload 5, 2) := by decide +kernel
theorem dL_law_379 : decode cL_law 379 = .ok (.bipush 6, 2) := by decide +kernel
theorem dL_law_381 : decode cL_law 381 = .ok (.multianewarray 58 2, 4) := by decide +kernel
theorem dL_law_385 : decode cL_law 385 = .ok (.astore 9, 2) := by decide +kernel
theorem dL_law_387 : decode cL_law 387 = .ok (.iconst 0, 1) := by decide +kernel
theorem dL_law_388 : decode cL_law 388 = .ok (.istore 10, 2) := by decide +kernel
theorem dL_law_390 : decode cL_law 390 = .ok (.iload 10, 2) := by decide +kernel
theorem dL_law_392 : decode cL_law 392 = .ok (.iload 5, 2) := by decide +kernel
theorem dL_law_394 : decode cL_law 394 = .ok (.if_icmp .ge 41, 3) := by decide +kernel
theorem dL_law_397 : decode cL_law 397 = .ok (.iconst 0, 1) := by decide +kernel
theorem dL_law_398 : decode cL_law 398 = .ok (.istore 11, 2) := by decide +kernel
theorem dL_law_400 : decode cL_law 400 = .ok (.iload 11, 2) := by decide +kernel
theorem dL_law_402 : decode cL_law 402 = .ok (.bipush 6, 2) := by decide +kernel
theorem dL_law_404 : decode cL_law 404 = .ok (.if_icmp .ge 25, 3) := by decide +kernel
theorem dL_law_407 : decode cL_law 407 = .ok (.aload 9, 2) := by decide +kernel
theorem dL_law_409 : decode cL_law 409 = .ok (.iload 10, 2) := by decide +kernel
theorem dL_law_411 : decode cL_law 411 = .ok (.aaload, 1) := by decide +kernel
theorem dL_law_412 : decode cL_law 412 = .ok (.iload 11, 2) := by decide +kernel
theorem dL_law_414 : decode cL_law 414 = .ok (.aload_n 1, 1) := by decide +kernel
theorem dL_law_415 : decode cL_law 415 = .ok (.iload 10, 2) := by decide +kernel
theorem dL_law_417 : decode cL_law 417 = .ok (.iload 11, 2) := by decide +kernel
theorem dL_law_419 : decode cL_law 419 = .ok (.invokevirtual 60, 3) := by decide +kernel
theorem dL_law_422 : decode cL_law 422 = .ok (.iastore, 1) := by decide +kernel
theorem dL_law_423 : decode cL_law 423 = .ok (.iinc 11 1, 3) := by decide +kernel
theorem dL_law_426 : decode cL_law 426 = .ok (.goto (-26), 3) := by decide +kernel
theorem dL_law_429 : decode cL_law 429 = .ok (.iinc 10 1, 3) := by decide +kernel
theorem dL_law_432 : decode cL_law 432 = .ok (.goto (-42), 3) := by decide +kernel
theorem dL_law_435 : decode cL_law 435 = .ok (.bipush 10, 2) := by decide +kernel
theorem dL_law_437 : decode cL_law 437 = .ok (.newarray .int, 2) := by decide +kernel
theorem dL_law_439 : decode cL_law 439 = .ok (.astore 10, 2) := by decide +kernel
theorem dL_law_441 : decode cL_law 441 = .ok (.bipush 10, 2) := by decide +kernel
theorem dL_law_443 : decode cL_law 443 = .ok (.newarray .int, 2) := by decide +kernel
theorem dL_law_445 : decode cL_law 445 = .ok (.astore 11, 2) := by decide +kernel
theorem dL_law_447 : decode cL_law 447 = .ok (.iconst 0, 1) := by decide +kernel
theorem dL_law_448 : decode cL_law 448 = .ok (.istore 12, 2) := by decide +kernel
theorem dL_law_450 : decode cL_law 450 = .ok (.iload 12, 2) := by decide +kernel
theorem dL_law_452 : decode cL_law 452 = .ok (.bipush 10, 2) := by decide +kernel
theorem dL_law_454 : decode cL_law 454 = .ok (.if_icmp .ge 33, 3) := by decide +kernel
theorem dL_law_457 : decode cL_law 457 = .ok (.aload 10, 2) := by decide +kernel
theorem dL_law_459 : decode cL_law 459 = .ok (.iload 12, 2) := by decide +kernel
theorem dL_law_461 : decode cL_law 461 = .ok (.aload_n 1, 1) := by decide +kernel
theorem dL_law_462 : decode cL_law 462 = .ok (.iload 12, 2) := by decide +kernel
theorem dL_law_464 : decode cL_law 464 = .ok (.iconst 4, 1) := by decide +kernel
theorem dL_law_465 : decode cL_law 465 = .ok (.invokevirtual 63, 3) := by decide +kernel
theorem dL_law_468 : decode cL_law 468 = .ok (.iastore, 1) := by decide +kernel
theorem dL_law_469 : decode cL_law 469 = .ok (.aload 11, 2) := by decide +kernel
theorem dL_law_471 : decode cL_law 471 = .ok (.iload 12, 2) := by decide +kernel
theorem dL_law_473 : decode cL_law 473 = .ok (.aload_n 1, 1) := by decide +kernel
theorem dL_law_474 : decode cL_law 474 = .ok (.iload 12, 2) := by decide +kernel
theorem dL_law_476 : decode cL_law 476 = .ok (.iconst 0, 1) := by decide +kernel
theorem dL_law_477 : decode cL_law 477 = .ok (.invokevirtual 63, 3) := by decide +kernel
theorem dL_law_480 : decode cL_law 480 = .ok (.iastore, 1) := by decide +kernel
theorem dL_law_481 : decode cL_law 481 = .ok (.iinc 12 1, 3) := by decide +kernel
theorem dL_law_484 : decode cL_law 484 = .ok (.goto (-34), 3) := by decide +kernel
theorem dL_law_487 : decode cL_law 487 = .ok (.aload_n 1, 1) := by decide +kernel
theorem dL_law_488 : decode cL_law 488 = .ok (.bipush 7, 2) := by decide +kernel
theorem dL_law_490 : decode cL_law 490 = .ok (.invokevirtual 52, 3) := by decide +kernel
theorem dL_law_493 : decode cL_law 493 = .ok (.istore 12, 2) := by decide +kernel
theorem dL_law_495 : decode cL_law 495 = .ok (.aload_n 1, 1) := by decide +kernel
theorem dL_law_496 : decode cL_law 496 = .ok (.bipush 8, 2) := by decide +kernel
theorem dL_law_498 : decode cL_law 498 = .ok (.invokevirtual 52, 3) := by decide +kernel
theorem dL_law_501 : decode cL_law 501 = .ok (.istore 13, 2) := by decide +kernel
theorem dL_law_503 : decode cL_law 503 = .ok (.aload_n 1, 1) := by decide +kernel
theorem dL_law_504 : decode cL_law 504 = .ok (.invokevirtual 66, 3) := by decide +kernel
theorem dL_law_507 : decode cL_law 507 = .ok (.lstore 14, 2) := by decide +kernel
theorem dL_law_509 : decode cL_law 509 = .ok (.iconst 4, 1) := by decide +kernel
theorem dL_law_510 : decode cL_law 510 = .ok (.newarray .int, 2) := by decide +kernel
theorem dL_law_512 : decode cL_law 512 = .ok (.astore 16, 2) := by decide +kernel
theorem dL_law_514 : decode cL_law 514 = .ok (.iconst 0, 1) := by decide +kernel
theorem dL_law_515 : decode cL_law 515 = .ok (.istore 17, 2) := by decide +kernel
theorem dL_law_517 : decode cL_law 517 = .ok (.iload 17, 2) := by decide +kernel
theorem dL_law_519 : decode cL_law 519 = .ok (.iconst 4, 1) := by decide +kernel
theorem dL_law_520 : decode cL_law 520 = .ok (.if_icmp .ge 21, 3) := by decide +kernel
theorem dL_law_523 : decode cL_law 523 = .ok (.aload 16, 2) := by decide +kernel
theorem dL_law_525 : decode cL_law 525 = .ok (.iload 17, 2) := by decide +kernel
theorem dL_law_527 : decode cL_law 527 = .ok (.aload_n 1, 1) := by decide +kernel
theorem dL_law_528 : decode cL_law 528 = .ok (.iconst 1, 1) := by decide +kernel
theorem dL_law_529 : decode cL_law 529 = .ok (.iload 17, 2) := by decide +kernel
theorem dL_law_531 : decode cL_law 531 = .ok (.invokevirtual 70, 3) := by decide +kernel
theorem dL_law_534 : decode cL_law 534 = .ok (.iastore, 1) := by decide +kernel
theorem dL_law_535 : decode cL_law 535 = .ok (.iinc 17 1, 3) := by decide +kernel
theorem dL_law_538 : decode cL_law 538 = .ok (.goto (-21), 3) := by decide +kernel
theorem dL_law_541 : decode cL_law 541 = .ok (.iload 4, 2) := by decide +kernel
theorem dL_law_543 : decode cL_law 543 = .ok (.ifCond .ne 7, 3) := by decide +kernel
theorem dL_law_546 : decode cL_law 546 = .ok (.iconst 0, 1) := by decide +kernel
theorem dL_law_547 : decode cL_law 547 = .ok (.goto 11, 3) := by decide +kernel
theorem dL_law_550 : decode cL_law 550 = .ok (.iload_n 3, 1) := by decide +kernel
theorem dL_law_551 : decode cL_law 551 = .ok (.iconst 3, 1) := by decide +kernel
theorem dL_law_552 : decode cL_law 552 = .ok (.ishr, 1) := by decide +kernel
theorem dL_law_553 : decode cL_law 553 = .ok (.iload 4, 2) := by decide +kernel
theorem dL_law_555 : decode cL_law 555 = .ok (.invokestatic 18, 3) := by decide +kernel
theorem dL_law_558 : decode cL_law 558 = .ok (.istore 17, 2) := by decide +kernel
theorem dL_law_560 : decode cL_law 560 = .ok (.iload 4, 2) := by decide +kernel
theorem dL_law_562 : decode cL_law 562 = .ok (.ifCond .ne 7, 3) := by decide +kernel
theorem dL_law_565 : decode cL_law 565 = .ok (.iconst (-1), 1) := by decide +kernel
theorem dL_law_566 : decode cL_law 566 = .ok (.goto 9, 3) := by decide +kernel
theorem dL_law_569 : decode cL_law 569 = .ok (.aload_n 1, 1) := by decide +kernel
theorem dL_law_570 : decode cL_law 570 = .ok (.iload 17, 2) := by decide +kernel
theorem dL_law_572 : decode cL_law 572 = .ok (.invokevirtual 73, 3) := by decide +kernel
theorem dL_law_575 : decode cL_law 575 = .ok (.istore 18, 2) := by decide +kernel
theorem dL_law_577 : decode cL_law 577 = .ok (.iload_n 2, 1) := by decide +kernel
theorem dL_law_578 : decode cL_law 578 = .ok (.bipush 8, 2) := by decide +kernel
theorem dL_law_580 : decode cL_law 580 = .ok (.irem, 1) := by decide +kernel
theorem dL_law_581 : decode cL_law 581 = .ok (.ifCond .le 7, 3) := by decide +kernel
theorem dL_law_584 : decode cL_law 584 = .ok (.iconst 0, 1) := by decide +kernel
theorem dL_law_585 : decode cL_law 585 = .ok (.goto 17, 3) := by decide +kernel
theorem dL_law_588 : decode cL_law 588 = .ok (.aload_n 1, 1) := by decide +kernel
theorem dL_law_589 : decode cL_law 589 = .ok (.iconst 1, 1) := by decide +kernel
theorem dL_law_590 : decode cL_law 590 = .ok (.iload_n 3, 1) := by decide +kernel
theorem dL_law_591 : decode cL_law 591 = .ok (.iconst 4, 1) := by decide +kernel
theorem dL_law_592 : decode cL_law 592 = .ok (.ishr, 1) := by decide +kernel
theorem dL_law_593 : decode cL_law 593 = .ok (.bipush 40, 2) := by decide +kernel
theorem dL_law_595 : decode cL_law 595 = .ok (.invokestatic 18, 3) := by decide +kernel
theorem dL_law_598 : decode cL_law 598 = .ok (.iadd, 1) := by decide +kernel
theorem dL_law_599 : decode cL_law 599 = .ok (.invokevirtual 76, 3) := by decide +kernel
theorem dL_law_602 : decode cL_law 602 = .ok (.istore 19, 2) := by decide +kernel
theorem dL_law_604 : decode cL_law 604 = .ok (.aload_n 1, 1) := by decide +kernel
theorem dL_law_605 : decode cL_law 605 = .ok (.invokevirtual 66, 3) := by decide +kernel
theorem dL_law_608 : decode cL_law 608 = .ok (.lload 14, 2) := by decide +kernel
theorem dL_law_610 : decode cL_law 610 = .ok (.lcmp, 1) := by decide +kernel
theorem dL_law_611 : decode cL_law 611 = .ok (.ifCond .ne 49, 3) := by decide +kernel
theorem dL_law_614 : decode cL_law 614 = .ok (.iload 19, 2) := by decide +kernel
theorem dL_law_616 : decode cL_law 616 = .ok (.ifCond .lt 44, 3) := by decide +kernel
theorem dL_law_619 : decode cL_law 619 = .ok (.iload 19, 2) := by decide +kernel
theorem dL_law_621 : decode cL_law 621 = .ok (.bipush 15, 2) := by decide +kernel
theorem dL_law_623 : decode cL_law 623 = .ok (.if_icmp .gt 37, 3) := by decide +kernel
theorem dL_law_626 : decode cL_law 626 = .ok (.iload 4, 2) := by decide +kernel
theorem dL_law_628 : decode cL_law 628 = .ok (.ifCond .le 34, 3) := by decide +kernel
theorem dL_law_631 : decode cL_law 631 = .ok (.iload 18, 2) := by decide +kernel
theorem dL_law_633 : decode cL_law 633 = .ok (.ifCond .ne 7, 3) := by decide +kernel
theorem dL_law_636 : decode cL_law 636 = .ok (.iconst 1, 1) := by decide +kernel
theorem dL_law_637 : decode cL_law 637 = .ok (.goto 4, 3) := by decide +kernel
theorem dL_law_640 : decode cL_law 640 = .ok (.iconst 0, 1) := by decide +kernel
theorem dL_law_641 : decode cL_law 641 = .ok (.aload 8, 2) := by decide +kernel
theorem dL_law_643 : decode cL_law 643 = .ok (.iload 17, 2) := by decide +kernel
theorem dL_law_645 : decode cL_law 645 = .ok (.aaload, 1) := by decide +kernel
end
section
theorem dL_law_646 : decode cL_law 646 = .ok (.iconst 0, 1) := by decide +kernel
theorem dL_law_647 : decode cL_law 647 = .ok (.iaload, 1) := by decide +kernel
theorem dL_law_648 : decode cL_law 648 = .ok (.iconst 2, 1) := by decide +kernel
theorem dL_law_649 : decode cL_law 649 = .ok (.if_icmp .ne 7, 3) := by decide +kernel
theorem dL_law_652 : decode cL_law 652 = .ok (.iconst 1, 1) := by decide +kernel
theorem dL_law_653 : decode cL_law 653 = .ok (.goto 4, 3) := by decide +kernel
theorem dL_law_656 : decode cL_law 656 = .ok (.iconst 0, 1) := by decide +kernel
theorem dL_law_657 : decode cL_law 657 = .ok (.if_icmp .eq 5, 3) := by decide +kernel
theorem dL_law_660 : decode cL_law 660 = .ok (.iconst 0, 1) := by decide +kernel
theorem dL_law_661 : decode cL_law 661 = .ok (.ireturn, 1) := by decide +kernel
theorem dL_law_662 : decode cL_law 662 = .ok (.aload_n 1, 1) := by decide +kernel
theorem dL_law_663 : decode cL_law 663 = .ok (.iconst 1, 1) := by decide +kernel
theorem dL_law_664 : decode cL_law 664 = .ok (.invokevirtual 33, 3) := by decide +kernel
theorem dL_law_667 : decode cL_law 667 = .ok (.istore 20, 2) := by decide +kernel
theorem dL_law_669 : decode cL_law 669 = .ok (.iload 20, 2) := by decide +kernel
theorem dL_law_671 : decode cL_law 671 = .ok (.aload 16, 2) := by decide +kernel
theorem dL_law_673 : decode cL_law 673 = .ok (.iconst 0, 1) := by decide +kernel
theorem dL_law_674 : decode cL_law 674 = .ok (.iaload, 1) := by decide +kernel
theorem dL_law_675 : decode cL_law 675 = .ok (.if_icmp .ne 60, 3) := by decide +kernel
theorem dL_law_678 : decode cL_law 678 = .ok (.aload_n 1, 1) := by decide +kernel
theorem dL_law_679 : decode cL_law 679 = .ok (.bipush 7, 2) := by decide +kernel
theorem dL_law_681 : decode cL_law 681 = .ok (.invokevirtual 52, 3) := by decide +kernel
theorem dL_law_684 : decode cL_law 684 = .ok (.iload 12, 2) := by decide +kernel
theorem dL_law_686 : decode cL_law 686 = .ok (.isub, 1) := by decide +kernel
theorem dL_law_687 : decode cL_law 687 = .ok (.aload 16, 2) := by decide +kernel
theorem dL_law_689 : decode cL_law 689 = .ok (.iconst 1, 1) := by decide +kernel
theorem dL_law_690 : decode cL_law 690 = .ok (.iaload, 1) := by decide +kernel
theorem dL_law_691 : decode cL_law 691 = .ok (.if_icmp .ne 44, 3) := by decide +kernel
theorem dL_law_694 : decode cL_law 694 = .ok (.aload_n 1, 1) := by decide +kernel
theorem dL_law_695 : decode cL_law 695 = .ok (.bipush 8, 2) := by decide +kernel
theorem dL_law_697 : decode cL_law 697 = .ok (.invokevirtual 52, 3) := by decide +kernel
theorem dL_law_700 : decode cL_law 700 = .ok (.iload 13, 2) := by decide +kernel
theorem dL_law_702 : decode cL_law 702 = .ok (.isub, 1) := by decide +kernel
theorem dL_law_703 : decode cL_law 703 = .ok (.aload 16, 2) := by decide +kernel
theorem dL_law_705 : decode cL_law 705 = .ok (.iconst 2, 1) := by decide +kernel
theorem dL_law_706 : decode cL_law 706 = .ok (.iaload, 1) := by decide +kernel
theorem dL_law_707 : decode cL_law 707 = .ok (.if_icmp .ne 28, 3) := by decide +kernel
theorem dL_law_710 : decode cL_law 710 = .ok (.aload_n 1, 1) := by decide +kernel
theorem dL_law_711 : decode cL_law 711 = .ok (.bipush 9, 2) := by decide +kernel
theorem dL_law_713 : decode cL_law 713 = .ok (.invokevirtual 52, 3) := by decide +kernel
theorem dL_law_716 : decode cL_law 716 = .ok (.aload 16, 2) := by decide +kernel
theorem dL_law_718 : decode cL_law 718 = .ok (.iconst 3, 1) := by decide +kernel
theorem dL_law_719 : decode cL_law 719 = .ok (.iaload, 1) := by decide +kernel
theorem dL_law_720 : decode cL_law 720 = .ok (.if_icmp .ne 15, 3) := by decide +kernel
theorem dL_law_723 : decode cL_law 723 = .ok (.aload_n 1, 1) := by decide +kernel
theorem dL_law_724 : decode cL_law 724 = .ok (.iconst 0, 1) := by decide +kernel
theorem dL_law_725 : decode cL_law 725 = .ok (.invokevirtual 52, 3) := by decide +kernel
theorem dL_law_728 : decode cL_law 728 = .ok (.iload 7, 2) := by decide +kernel
theorem dL_law_730 : decode cL_law 730 = .ok (.iconst 1, 1) := by decide +kernel
theorem dL_law_731 : decode cL_law 731 = .ok (.iadd, 1) := by decide +kernel
theorem dL_law_732 : decode cL_law 732 = .ok (.if_icmp .eq 5, 3) := by decide +kernel
theorem dL_law_735 : decode cL_law 735 = .ok (.iconst 0, 1) := by decide +kernel
theorem dL_law_736 : decode cL_law 736 = .ok (.ireturn, 1) := by decide +kernel
theorem dL_law_737 : decode cL_law 737 = .ok (.iconst 0, 1) := by decide +kernel
theorem dL_law_738 : decode cL_law 738 = .ok (.istore 21, 2) := by decide +kernel
theorem dL_law_740 : decode cL_law 740 = .ok (.iconst 0, 1) := by decide +kernel
theorem dL_law_741 : decode cL_law 741 = .ok (.istore 22, 2) := by decide +kernel
theorem dL_law_743 : decode cL_law 743 = .ok (.iload 22, 2) := by decide +kernel
theorem dL_law_745 : decode cL_law 745 = .ok (.iload 5, 2) := by decide +kernel
theorem dL_law_747 : decode cL_law 747 = .ok (.if_icmp .ge 364, 3) := by decide +kernel
theorem dL_law_750 : decode cL_law 750 = .ok (.aload_n 1, 1) := by decide +kernel
theorem dL_law_751 : decode cL_law 751 = .ok (.iload 22, 2) := by decide +kernel
theorem dL_law_753 : decode cL_law 753 = .ok (.iconst 0, 1) := by decide +kernel
theorem dL_law_754 : decode cL_law 754 = .ok (.invokevirtual 60, 3) := by decide +kernel
theorem dL_law_757 : decode cL_law 757 = .ok (.istore 23, 2) := by decide +kernel
theorem dL_law_759 : decode cL_law 759 = .ok (.aload_n 1, 1) := by decide +kernel
theorem dL_law_760 : decode cL_law 760 = .ok (.iload 22, 2) := by decide +kernel
theorem dL_law_762 : decode cL_law 762 = .ok (.iconst 1, 1) := by decide +kernel
theorem dL_law_763 : decode cL_law 763 = .ok (.invokevirtual 60, 3) := by decide +kernel
theorem dL_law_766 : decode cL_law 766 = .ok (.istore 24, 2) := by decide +kernel
theorem dL_law_768 : decode cL_law 768 = .ok (.aload_n 1, 1) := by decide +kernel
theorem dL_law_769 : decode cL_law 769 = .ok (.iload 22, 2) := by decide +kernel
theorem dL_law_771 : decode cL_law 771 = .ok (.iconst 2, 1) := by decide +kernel
theorem dL_law_772 : decode cL_law 772 = .ok (.invokevirtual 60, 3) := by decide +kernel
theorem dL_law_775 : decode cL_law 775 = .ok (.istore 25, 2) := by decide +kernel
theorem dL_law_777 : decode cL_law 777 = .ok (.iload 21, 2) := by decide +kernel
theorem dL_law_779 : decode cL_law 779 = .ok (.aload_n 1, 1) := by decide +kernel
theorem dL_law_780 : decode cL_law 780 = .ok (.iload 22, 2) := by decide +kernel
theorem dL_law_782 : decode cL_law 782 = .ok (.iconst 5, 1) := by decide +kernel
theorem dL_law_783 : decode cL_law 783 = .ok (.invokevirtual 60, 3) := by decide +kernel
theorem dL_law_786 : decode cL_law 786 = .ok (.iadd, 1) := by decide +kernel
theorem dL_law_787 : decode cL_law 787 = .ok (.istore 21, 2) := by decide +kernel
theorem dL_law_789 : decode cL_law 789 = .ok (.aload_n 1, 1) := by decide +kernel
theorem dL_law_790 : decode cL_law 790 = .ok (.iload 22, 2) := by decide +kernel
theorem dL_law_792 : decode cL_law 792 = .ok (.iconst 4, 1) := by decide +kernel
theorem dL_law_793 : decode cL_law 793 = .ok (.invokevirtual 60, 3) := by decide +kernel
theorem dL_law_796 : decode cL_law 796 = .ok (.aload_n 1, 1) := by decide +kernel
theorem dL_law_797 : decode cL_law 797 = .ok (.iload 22, 2) := by decide +kernel
theorem dL_law_799 : decode cL_law 799 = .ok (.iconst 3, 1) := by decide +kernel
theorem dL_law_800 : decode cL_law 800 = .ok (.invokevirtual 60, 3) := by decide +kernel
theorem dL_law_803 : decode cL_law 803 = .ok (.if_icmp .gt 37, 3) := by decide +kernel
theorem dL_law_806 : decode cL_law 806 = .ok (.aload_n 1, 1) := by decide +kernel
theorem dL_law_807 : decode cL_law 807 = .ok (.iload 22, 2) := by decide +kernel
theorem dL_law_809 : decode cL_law 809 = .ok (.iconst 3, 1) := by decide +kernel
theorem dL_law_810 : decode cL_law 810 = .ok (.invokevirtual 60, 3) := by decide +kernel
theorem dL_law_813 : decode cL_law 813 = .ok (.aload 9, 2) := by decide +kernel
theorem dL_law_815 : decode cL_law 815 = .ok (.iload 22, 2) := by decide +kernel
theorem dL_law_817 : decode cL_law 817 = .ok (.aaload, 1) := by decide +kernel
theorem dL_law_818 : decode cL_law 818 = .ok (.iconst 3, 1) := by decide +kernel
theorem dL_law_819 : decode cL_law 819 = .ok (.iaload, 1) := by decide +kernel
theorem dL_law_820 : decode cL_law 820 = .ok (.if_icmp .ne 20, 3) := by decide +kernel
theorem dL_law_823 : decode cL_law 823 = .ok (.aload_n 1, 1) := by decide +kernel
theorem dL_law_824 : decode cL_law 824 = .ok (.iload 22, 2) := by decide +kernel
theorem dL_law_826 : decode cL_law 826 = .ok (.iconst 5, 1) := by decide +kernel
theorem dL_law_827 : decode cL_law 827 = .ok (.invokevirtual 60, 3) := by decide +kernel
theorem dL_law_830 : decode cL_law 830 = .ok (.aload 9, 2) := by decide +kernel
theorem dL_law_832 : decode cL_law 832 = .ok (.iload 22, 2) := by decide +kernel
theorem dL_law_834 : decode cL_law 834 = .ok (.aaload, 1) := by decide +kernel
theorem dL_law_835 : decode cL_law 835 = .ok (.iconst 5, 1) := by decide +kernel
theorem dL_law_836 : decode cL_law 836 = .ok (.iaload, 1) := by decide +kernel
theorem dL_law_837 : decode cL_law 837 = .ok (.if_icmp .ge 5, 3) := by decide +kernel
theorem dL_law_840 : decode cL_law 840 = .ok (.iconst 0, 1) := by decide +kernel
theorem dL_law_841 : decode cL_law 841 = .ok (.ireturn, 1) := by decide +kernel
theorem dL_law_842 : decode cL_law 842 = .ok (.aload 9, 2) := by decide +kernel
theorem dL_law_844 : decode cL_law 844 = .ok (.iload 22, 2) := by decide +kernel
theorem dL_law_846 : decode cL_law 846 = .ok (.aaload, 1) := by decide +kernel
theorem dL_law_847 : decode cL_law 847 = .ok (.iconst 1, 1) := by decide +kernel
theorem dL_law_848 : decode cL_law 848 = .ok (.iaload, 1) := by decide +kernel
theorem dL_law_849 : decode cL_law 849 = .ok (.iconst 1, 1) := by decide +kernel
theorem dL_law_850 : decode cL_law 850 = .ok (.if_icmp .ne 79, 3) := by decide +kernel
theorem dL_law_853 : decode cL_law 853 = .ok (.aload 9, 2) := by decide +kernel
theorem dL_law_855 : decode cL_law 855 = .ok (.iload 22, 2) := by decide +kernel
theorem dL_law_857 : decode cL_law 857 = .ok (.aaload, 1) := by decide +kernel
theorem dL_law_858 : decode cL_law 858 = .ok (.iconst 2, 1) := by decide +kernel
theorem dL_law_859 : decode cL_law 859 = .ok (.iaload, 1) := by decide +kernel
theorem dL_law_860 : decode cL_law 860 = .ok (.iconst 1, 1) := by decide +kernel
theorem dL_law_861 : decode cL_law 861 = .ok (.if_icmp .le 38, 3) := by decide +kernel
theorem dL_law_864 : decode cL_law 864 = .ok (.iload 24, 2) := by decide +kernel
theorem dL_law_866 : decode cL_law 866 = .ok (.iconst 1, 1) := by decide +kernel
theorem dL_law_867 : decode cL_law 867 = .ok (.if_icmp .ne 60, 3) := by decide +kernel
theorem dL_law_870 : decode cL_law 870 = .ok (.iload 23, 2) := by decide +kernel
theorem dL_law_872 : decode cL_law 872 = .ok (.aload 9, 2) := by decide +kernel
theorem dL_law_874 : decode cL_law 874 = .ok (.iload 22, 2) := by decide +kernel
theorem dL_law_876 : decode cL_law 876 = .ok (.aaload, 1) := by decide +kernel
theorem dL_law_877 : decode cL_law 877 = .ok (.iconst 0, 1) := by decide +kernel
theorem dL_law_878 : decode cL_law 878 = .ok (.iaload, 1) := by decide +kernel
theorem dL_law_879 : decode cL_law 879 = .ok (.if_icmp .ne 48, 3) := by decide +kernel
theorem dL_law_882 : decode cL_law 882 = .ok (.iload 25, 2) := by decide +kernel
theorem dL_law_884 : decode cL_law 884 = .ok (.aload 9, 2) := by decide +kernel
theorem dL_law_886 : decode cL_law 886 = .ok (.iload 22, 2) := by decide +kernel
theorem dL_law_888 : decode cL_law 888 = .ok (.aaload, 1) := by decide +kernel
theorem dL_law_889 : decode cL_law 889 = .ok (.iconst 2, 1) := by decide +kernel
theorem dL_law_890 : decode cL_law 890 = .ok (.iaload, 1) := by decide +kernel
theorem dL_law_891 : decode cL_law 891 = .ok (.iconst 1, 1) := by decide +kernel
theorem dL_law_892 : decode cL_law 892 = .ok (.isub, 1) := by decide +kernel
theorem dL_law_893 : decode cL_law 893 = .ok (.if_icmp .eq 36, 3) := by decide +kernel
theorem dL_law_896 : decode cL_law 896 = .ok (.goto 31, 3) := by decide +kernel
theorem dL_law_899 : decode cL_law 899 = .ok (.iload 24, 2) := by decide +kernel
theorem dL_law_901 : decode cL_law 901 = .ok (.ifCond .ne 26, 3) := by decide +kernel
theorem dL_law_904 : decode cL_law 904 = .ok (.iload 23, 2) := by decide +kernel
theorem dL_law_906 : decode cL_law 906 = .ok (.aload 9, 2) := by decide +kernel
theorem dL_law_908 : decode cL_law 908 = .ok (.iload 22, 2) := by decide +kernel
theorem dL_law_910 : decode cL_law 910 = .ok (.aaload, 1) := by decide +kernel
theorem dL_law_911 : decode cL_law 911 = .ok (.iconst 0, 1) := by decide +kernel
theorem dL_law_912 : decode cL_law 912 = .ok (.iaload, 1) := by decide +kernel
theorem dL_law_913 : decode cL_law 913 = .ok (.iconst 1, 1) := by decide +kernel
theorem dL_law_914 : decode cL_law 914 = .ok (.iadd, 1) := by decide +kernel
theorem dL_law_915 : decode cL_law 915 = .ok (.bipush 10, 2) := by decide +kernel
theorem dL_law_917 : decode cL_law 917 = .ok (.irem, 1) := by decide +kernel
theorem dL_law_918 : decode cL_law 918 = .ok (.if_icmp .ne 9, 3) := by decide +kernel
theorem dL_law_921 : decode cL_law 921 = .ok (.iload 25, 2) := by decide +kernel
theorem dL_law_923 : decode cL_law 923 = .ok (.iconst 1, 1) := by decide +kernel
theorem dL_law_924 : decode cL_law 924 = .ok (.if_icmp .ge 5, 3) := by decide +kernel
theorem dL_law_927 : decode cL_law 927 = .ok (.iconst 0, 1) := by decide +kernel
theorem dL_law_928 : decode cL_law 928 = .ok (.ireturn, 1) := by decide +kernel
theorem dL_law_929 : decode cL_law 929 = .ok (.aload 9, 2) := by decide +kernel
theorem dL_law_931 : decode cL_law 931 = .ok (.iload 22, 2) := by decide +kernel
theorem dL_law_933 : decode cL_law 933 = .ok (.aaload, 1) := by decide +kernel
theorem dL_law_934 : decode cL_law 934 = .ok (.iconst 1, 1) := by decide +kernel
theorem dL_law_935 : decode cL_law 935 = .ok (.iaload, 1) := by decide +kernel
theorem dL_law_936 : decode cL_law 936 = .ok (.ifCond .ne 79, 3) := by decide +kernel
theorem dL_law_939 : decode cL_law 939 = .ok (.iload 23, 2) := by decide +kernel
theorem dL_law_941 : decode cL_law 941 = .ok (.aload 9, 2) := by decide +kernel
theorem dL_law_943 : decode cL_law 943 = .ok (.iload 22, 2) := by decide +kernel
theorem dL_law_945 : decode cL_law 945 = .ok (.aaload, 1) := by decide +kernel
theorem dL_law_946 : decode cL_law 946 = .ok (.iconst 0, 1) := by decide +kernel
theorem dL_law_947 : decode cL_law 947 = .ok (.iaload, 1) := by decide +kernel
theorem dL_law_948 : decode cL_law 948 = .ok (.if_icmp .ne 65, 3) := by decide +kernel
theorem dL_law_951 : decode cL_law 951 = .ok (.iload 24, 2) := by decide +kernel
theorem dL_law_953 : decode cL_law 953 = .ok (.ifCond .ne 21, 3) := by decide +kernel
theorem dL_law_956 : decode cL_law 956 = .ok (.iload 25, 2) := by decide +kernel
theorem dL_law_958 : decode cL_law 958 = .ok (.iconst 0, 1) := by decide +kernel
theorem dL_law_959 : decode cL_law 959 = .ok (.aload 9, 2) := by decide +kernel
theorem dL_law_961 : decode cL_law 961 = .ok (.iload 22, 2) := by decide +kernel
theorem dL_law_963 : decode cL_law 963 = .ok (.aaload, 1) := by decide +kernel
theorem dL_law_964 : decode cL_law 964 = .ok (.iconst 2, 1) := by decide +kernel
theorem dL_law_965 : decode cL_law 965 = .ok (.iaload, 1) := by decide +kernel
theorem dL_law_966 : decode cL_law 966 = .ok (.iconst 1, 1) := by decide +kernel
theorem dL_law_967 : decode cL_law 967 = .ok (.isub, 1) := by decide +kernel
theorem dL_law_968 : decode cL_law 968 = .ok (.invokestatic 79, 3) := by decide +kernel
theorem dL_law_971 : decode cL_law 971 = .ok (.if_icmp .ne 42, 3) := by decide +kernel
theorem dL_law_974 : decode cL_law 974 = .ok (.iload 24, 2) := by decide +kernel
theorem dL_law_976 : decode cL_law 976 = .ok (.iconst 1, 1) := by decide +kernel
theorem dL_law_977 : decode cL_law 977 = .ok (.if_icmp .ne 38, 3) := by decide +kernel
theorem dL_law_980 : decode cL_law 980 = .ok (.aload 9, 2) := by decide +kernel
theorem dL_law_982 : decode cL_law 982 = .ok (.iload 22, 2) := by decide +kernel
theorem dL_law_984 : decode cL_law 984 = .ok (.aaload, 1) := by decide +kernel
theorem dL_law_985 : decode cL_law 985 = .ok (.iconst 2, 1) := by decide +kernel
theorem dL_law_986 : decode cL_law 986 = .ok (.iaload, 1) := by decide +kernel
theorem dL_law_987 : decode cL_law 987 = .ok (.iconst 1, 1) := by decide +kernel
theorem dL_law_988 : decode cL_law 988 = .ok (.if_icmp .gt 25, 3) := by decide +kernel
theorem dL_law_991 : decode cL_law 991 = .ok (.iload 25, 2) := by decide +kernel
theorem dL_law_993 : decode cL_law 993 = .ok (.aload 11, 2) := by decide +kernel
theorem dL_law_995 : decode cL_law 995 = .ok (.iload 23, 2) := by decide +kernel
theorem dL_law_997 : decode cL_law 997 = .ok (.iaload, 1) := by decide +kernel
theorem dL_law_998 : decode cL_law 998 = .ok (.if_icmp .ne 15, 3) := by decide +kernel
theorem dL_law_1001 : decode cL_law 1001 = .ok (.aload_n 1, 1) := by decide +kernel
theorem dL_law_1002 : decode cL_law 1002 = .ok (.iload 23, 2) := by decide +kernel
theorem dL_law_1004 : decode cL_law 1004 = .ok (.iconst 4, 1) := by decide +kernel
theorem dL_law_1005 : decode cL_law 1005 = .ok (.invokevirtual 63, 3) := by decide +kernel
theorem dL_law_1008 : decode cL_law 1008 = .ok (.iload 7, 2) := by decide +kernel
theorem dL_law_1010 : decode cL_law 1010 = .ok (.if_icmp .eq 5, 3) := by decide +kernel
theorem dL_law_1013 : decode cL_law 1013 = .ok (.iconst 0, 1) := by decide +kernel
theorem dL_law_1014 : decode cL_law 1014 = .ok (.ireturn, 1) := by decide +kernel
theorem dL_law_1015 : decode cL_law 1015 = .ok (.aload 9, 2) := by decide +kernel
theorem dL_law_1017 : decode cL_law 1017 = .ok (.iload 22, 2) := by decide +kernel
theorem dL_law_1019 : decode cL_law 1019 = .ok (.aaload, 1) := by decide +kernel
theorem dL_law_1020 : decode cL_law 1020 = .ok (.iconst 1, 1) := by decide +kernel
theorem dL_law_1021 : decode cL_law 1021 = .ok (.iaload, 1) := by decide +kernel
theorem dL_law_1022 : decode cL_law 1022 = .ok (.ifCond .ne 39, 3) := by decide +kernel
theorem dL_law_1025 : decode cL_law 1025 = .ok (.aload 9, 2) := by decide +kernel
theorem dL_law_1027 : decode cL_law 1027 = .ok (.iload 22, 2) := by decide +kernel
theorem dL_law_1029 : decode cL_law 1029 = .ok (.aaload, 1) := by decide +kernel
theorem dL_law_1030 : decode cL_law 1030 = .ok (.iconst 2, 1) := by decide +kernel
theorem dL_law_1031 : decode cL_law 1031 = .ok (.iaload, 1) := by decide +kernel
theorem dL_law_1032 : decode cL_law 1032 = .ok (.iconst 2, 1) := by decide +kernel
theorem dL_law_1033 : decode cL_law 1033 = .ok (.if_icmp .ge 28, 3) := by decide +kernel
theorem dL_law_1036 : decode cL_law 1036 = .ok (.iload 24, 2) := by decide +kernel
theorem dL_law_1038 : decode cL_law 1038 = .ok (.ifCond .ne 23, 3) := by decide +kernel
theorem dL_law_1041 : decode cL_law 1041 = .ok (.iload 6, 2) := by decide +kernel
theorem dL_law_1043 : decode cL_law 1043 = .ok (.ifCond .eq 60, 3) := by decide +kernel
theorem dL_law_1046 : decode cL_law 1046 = .ok (.iload 7, 2) := by decide +kernel
theorem dL_law_1048 : decode cL_law 1048 = .ok (.aload_n 1, 1) := by decide +kernel
theorem dL_law_1049 : decode cL_law 1049 = .ok (.iload 23, 2) := by decide +kernel
theorem dL_law_1051 : decode cL_law 1051 = .ok (.iconst 4, 1) := by decide +kernel
theorem dL_law_1052 : decode cL_law 1052 = .ok (.invokevirtual 63, 3) := by decide +kernel
theorem dL_law_1055 : decode cL_law 1055 = .ok (.isub, 1) := by decide +kernel
theorem dL_law_1056 : decode cL_law 1056 = .ok (.iload 6, 2) := by decide +kernel
theorem dL_law_1058 : decode cL_law 1058 = .ok (.if_icmp .ge 45, 3) := by decide +kernel
theorem dL_law_1061 : decode cL_law 1061 = .ok (.iload 24, 2) := by decide +kernel
theorem dL_law_1063 : decode cL_law 1063 = .ok (.iconst 1, 1) := by decide +kernel
theorem dL_law_1064 : decode cL_law 1064 = .ok (.if_icmp .ne 41, 3) := by decide +kernel
theorem dL_law_1067 : decode cL_law 1067 = .ok (.aload 9, 2) := by decide +kernel
theorem dL_law_1069 : decode cL_law 1069 = .ok (.iload 22, 2) := by decide +kernel
theorem dL_law_1071 : decode cL_law 1071 = .ok (.aaload, 1) := by decide +kernel
theorem dL_law_1072 : decode cL_law 1072 = .ok (.iconst 1, 1) := by decide +kernel
theorem dL_law_1073 : decode cL_law 1073 = .ok (.iaload, 1) := by decide +kernel
theorem dL_law_1074 : decode cL_law 1074 = .ok (.ifCond .ne 31, 3) := by decide +kernel
theorem dL_law_1077 : decode cL_law 1077 = .ok (.iload 6, 2) := by decide +kernel
theorem dL_law_1079 : decode cL_law 1079 = .ok (.ifCond .le 26, 3) := by decide +kernel
theorem dL_law_1082 : decode cL_law 1082 = .ok (.aload 10, 2) := by decide +kernel
theorem dL_law_1084 : decode cL_law 1084 = .ok (.iload 23, 2) := by decide +kernel
theorem dL_law_1086 : decode cL_law 1086 = .ok (.iaload, 1) := by decide +kernel
theorem dL_law_1087 : decode cL_law 1087 = .ok (.ifCond .lt 18, 3) := by decide +kernel
theorem dL_law_1090 : decode cL_law 1090 = .ok (.iload 7, 2) := by decide +kernel
theorem dL_law_1092 : decode cL_law 1092 = .ok (.aload 10, 2) := by decide +kernel
theorem dL_law_1094 : decode cL_law 1094 = .ok (.iload 23, 2) := by decide +kernel
theorem dL_law_1096 : decode cL_law 1096 = .ok (.iaload, 1) := by decide +kernel
theorem dL_law_1097 : decode cL_law 1097 = .ok (.isub, 1) := by decide +kernel
theorem dL_law_1098 : decode cL_law 1098 = .ok (.iload 6, 2) := by decide +kernel
theorem dL_law_1100 : decode cL_law 1100 = .ok (.if_icmp .ge 5, 3) := by decide +kernel
theorem dL_law_1103 : decode cL_law 1103 = .ok (.iconst 0, 1) := by decide +kernel
theorem dL_law_1104 : decode cL_law 1104 = .ok (.ireturn, 1) := by decide +kernel
theorem dL_law_1105 : decode cL_law 1105 = .ok (.iinc 22 1, 3) := by decide +kernel
theorem dL_law_1108 : decode cL_law 1108 = .ok (.goto (-365), 3) := by decide +kernel
theorem dL_law_1111 : decode cL_law 1111 = .ok (.iconst 0, 1) := by decide +kernel
theorem dL_law_1112 : decode cL_law 1112 = .ok (.istore 22, 2) := by decide +kernel
theorem dL_law_1114 : decode cL_law 1114 = .ok (.iconst 0, 1) := by decide +kernel
theorem dL_law_1115 : decode cL_law 1115 = .ok (.istore 23, 2) := by decide +kernel
theorem dL_law_1117 : decode cL_law 1117 = .ok (.iconst 0, 1) := by decide +kernel
theorem dL_law_1118 : decode cL_law 1118 = .ok (.istore 24, 2) := by decide +kernel
theorem dL_law_1120 : decode cL_law 1120 = .ok (.iload 24, 2) := by decide +kernel
theorem dL_law_1122 : decode cL_law 1122 = .ok (.iload 4, 2) := by decide +kernel
theorem dL_law_1124 : decode cL_law 1124 = .ok (.if_icmp .ge 496, 3) := by decide +kernel
theorem dL_law_1127 : decode cL_law 1127 = .ok (.aload_n 1, 1) := by decide +kernel
theorem dL_law_1128 : decode cL_law 1128 = .ok (.iload 24, 2) := by decide +kernel
theorem dL_law_1130 : decode cL_law 1130 = .ok (.iconst 0, 1) := by decide +kernel
theorem dL_law_1131 : decode cL_law 1131 = .ok (.invokevirtual 55, 3) := by decide +kernel
theorem dL_law_1134 : decode cL_law 1134 = .ok (.istore 25, 2) := by decide +kernel
theorem dL_law_1136 : decode cL_law 1136 = .ok (.aload_n 1, 1) := by decide +kernel
theorem dL_law_1137 : decode cL_law 1137 = .ok (.iload 24, 2) := by decide +kernel
theorem dL_law_1139 : decode cL_law 1139 = .ok (.iconst 4, 1) := by decide +kernel
theorem dL_law_1140 : decode cL_law 1140 = .ok (.invokevirtual 55, 3) := by decide +kernel
theorem dL_law_1143 : decode cL_law 1143 = .ok (.aload 8, 2) := by decide +kernel
theorem dL_law_1145 : decode cL_law 1145 = .ok (.iload 24, 2) := by decide +kernel
theorem dL_law_1147 : decode cL_law 1147 = .ok (.aaload, 1) := by decide +kernel
theorem dL_law_1148 : decode cL_law 1148 = .ok (.iconst 4, 1) := by decide +kernel
theorem dL_law_1149 : decode cL_law 1149 = .ok (.iaload, 1) := by decide +kernel
theorem dL_law_1150 : decode cL_law 1150 = .ok (.isub, 1) := by decide +kernel
theorem dL_law_1151 : decode cL_law 1151 = .ok (.istore 26, 2) := by decide +kernel
theorem dL_law_1153 : decode cL_law 1153 = .ok (.iload 23, 2) := by decide +kernel
theorem dL_law_1155 : decode cL_law 1155 = .ok (.aload_n 1, 1) := by decide +kernel
theorem dL_law_1156 : decode cL_law 1156 = .ok (.iload 24, 2) := by decide +kernel
theorem dL_law_1158 : decode cL_law 1158 = .ok (.iconst 4, 1) := by decide +kernel
theorem dL_law_1159 : decode cL_law 1159 = .ok (.invokevirtual 55, 3) := by decide +kernel
theorem dL_law_1162 : decode cL_law 1162 = .ok (.iadd, 1) := by decide +kernel
theorem dL_law_1163 : decode cL_law 1163 = .ok (.istore 23, 2) := by decide +kernel
theorem dL_law_1165 : decode cL_law 1165 = .ok (.iload 22, 2) := by decide +kernel
theorem dL_law_1167 : decode cL_law 1167 = .ok (.iload 25, 2) := by decide +kernel
theorem dL_law_1169 : decode cL_law 1169 = .ok (.iconst 2, 1) := by decide +kernel
theorem dL_law_1170 : decode cL_law 1170 = .ok (.if_icmp .ne 18, 3) := by decide +kernel
theorem dL_law_1173 : decode cL_law 1173 = .ok (.aload 8, 2) := by decide +kernel
theorem dL_law_1175 : decode cL_law 1175 = .ok (.iload 24, 2) := by decide +kernel
theorem dL_law_1177 : decode cL_law 1177 = .ok (.aaload, 1) := by decide +kernel
theorem dL_law_1178 : decode cL_law 1178 = .ok (.iconst 0, 1) := by decide +kernel
theorem dL_law_1179 : decode cL_law 1179 = .ok (.iaload, 1) := by decide +kernel
theorem dL_law_1180 : decode cL_law 1180 = .ok (.iconst 2, 1) := by decide +kernel
theorem dL_law_1181 : decode cL_law 1181 = .ok (.if_icmp .eq 7, 3) := by decide +kernel
theorem dL_law_1184 : decode cL_law 1184 = .ok (.iconst 1, 1) := by decide +kernel
theorem dL_law_1185 : decode cL_law 1185 = .ok (.goto 4, 3) := by decide +kernel
theorem dL_law_1188 : decode cL_law 1188 = .ok (.iconst 0, 1) := by decide +kernel
theorem dL_law_1189 : decode cL_law 1189 = .ok (.iadd, 1) := by decide +kernel
theorem dL_law_1190 : decode cL_law 1190 = .ok (.istore 22, 2) := by decide +kernel
theorem dL_law_1192 : decode cL_law 1192 = .ok (.aload 8, 2) := by decide +kernel
theorem dL_law_1194 : decode cL_law 1194 = .ok (.iload 24, 2) := by decide +kernel
theorem dL_law_1196 : decode cL_law 1196 = .ok (.aaload, 1) := by decide +kernel
theorem dL_law_1197 : decode cL_law 1197 = .ok (.iconst 0, 1) := by decide +kernel
theorem dL_law_1198 : decode cL_law 1198 = .ok (.iaload, 1) := by decide +kernel
theorem dL_law_1199 : decode cL_law 1199 = .ok (.ifCond .ne 13, 3) := by decide +kernel
theorem dL_law_1202 : decode cL_law 1202 = .ok (.iload 25, 2) := by decide +kernel
theorem dL_law_1204 : decode cL_law 1204 = .ok (.iconst 1, 1) := by decide +kernel
theorem dL_law_1205 : decode cL_law 1205 = .ok (.if_icmp .ne 7, 3) := by decide +kernel
theorem dL_law_1208 : decode cL_law 1208 = .ok (.iconst 1, 1) := by decide +kernel
theorem dL_law_1209 : decode cL_law 1209 = .ok (.goto 4, 3) := by decide +kernel
theorem dL_law_1212 : decode cL_law 1212 = .ok (.iconst 0, 1) := by decide +kernel
theorem dL_law_1213 : decode cL_law 1213 = .ok (.istore 27, 2) := by decide +kernel
theorem dL_law_1215 : decode cL_law 1215 = .ok (.aload_n 1, 1) := by decide +kernel
theorem dL_law_1216 : decode cL_law 1216 = .ok (.aload 8, 2) := by decide +kernel
theorem dL_law_1218 : decode cL_law 1218 = .ok (.iload 24, 2) := by decide +kernel
theorem dL_law_1220 : decode cL_law 1220 = .ok (.aaload, 1) := by decide +kernel
theorem dL_law_1221 : decode cL_law 1221 = .ok (.iconst 1, 1) := by decide +kernel
theorem dL_law_1222 : decode cL_law 1222 = .ok (.iaload, 1) := by decide +kernel
theorem dL_law_1223 : decode cL_law 1223 = .ok (.aload 8, 2) := by decide +kernel
theorem dL_law_1225 : decode cL_law 1225 = .ok (.iload 24, 2) := by decide +kernel
theorem dL_law_1227 : decode cL_law 1227 = .ok (.aaload, 1) := by decide +kernel
theorem dL_law_1228 : decode cL_law 1228 = .ok (.iconst 2, 1) := by decide +kernel
theorem dL_law_1229 : decode cL_law 1229 = .ok (.iaload, 1) := by decide +kernel
theorem dL_law_1230 : decode cL_law 1230 = .ok (.invokevirtual 84, 3) := by decide +kernel
theorem dL_law_1233 : decode cL_law 1233 = .ok (.istore 28, 2) := by decide +kernel
theorem dL_law_1235 : decode cL_law 1235 = .ok (.aload_n 1, 1) := by decide +kernel
theorem dL_law_1236 : decode cL_law 1236 = .ok (.iload 24, 2) := by decide +kernel
theorem dL_law_1238 : decode cL_law 1238 = .ok (.iconst 5, 1) := by decide +kernel
theorem dL_law_1239 : decode cL_law 1239 = .ok (.invokevirtual 55, 3) := by decide +kernel
theorem dL_law_1242 : decode cL_law 1242 = .ok (.aload 8, 2) := by decide +kernel
theorem dL_law_1244 : decode cL_law 1244 = .ok (.iload 24, 2) := by decide +kernel
theorem dL_law_1246 : decode cL_law 1246 = .ok (.aaload, 1) := by decide +kernel
theorem dL_law_1247 : decode cL_law 1247 = .ok (.iconst 5, 1) := by decide +kernel
theorem dL_law_1248 : decode cL_law 1248 = .ok (.iaload, 1) := by decide +kernel
theorem dL_law_1249 : decode cL_law 1249 = .ok (.iload 25, 2) := by decide +kernel
theorem dL_law_1251 : decode cL_law 1251 = .ok (.ifCond .ne 7, 3) := by decide +kernel
theorem dL_law_1254 : decode cL_law 1254 = .ok (.iconst 1, 1) := by decide +kernel
theorem dL_law_1255 : decode cL_law 1255 = .ok (.goto 4, 3) := by decide +kernel
theorem dL_law_1258 : decode cL_law 1258 = .ok (.iconst 0, 1) := by decide +kernel
theorem dL_law_1259 : decode cL_law 1259 = .ok (.iadd, 1) := by decide +kernel
theorem dL_law_1260 : decode cL_law 1260 = .ok (.if_icmp .ne 49, 3) := by decide +kernel
theorem dL_law_1263 : decode cL_law 1263 = .ok (.aload_n 1, 1) := by decide +kernel
theorem dL_law_1264 : decode cL_law 1264 = .ok (.iload 24, 2) := by decide +kernel
theorem dL_law_1266 : decode cL_law 1266 = .ok (.iconst 2, 1) := by decide +kernel
theorem dL_law_1267 : decode cL_law 1267 = .ok (.invokevirtual 55, 3) := by decide +kernel
theorem dL_law_1270 : decode cL_law 1270 = .ok (.aload 8, 2) := by decide +kernel
theorem dL_law_1272 : decode cL_law 1272 = .ok (.iload 24, 2) := by decide +kernel
theorem dL_law_1274 : decode cL_law 1274 = .ok (.aaload, 1) := by decide +kernel
theorem dL_law_1275 : decode cL_law 1275 = .ok (.iconst 2, 1) := by decide +kernel
theorem dL_law_1276 : decode cL_law 1276 = .ok (.iaload, 1) := by decide +kernel
theorem dL_law_1277 : decode cL_law 1277 = .ok (.if_icmp .ne 32, 3) := by decide +kernel
theorem dL_law_1280 : decode cL_law 1280 = .ok (.iload 25, 2) := by decide +kernel
theorem dL_law_1282 : decode cL_law 1282 = .ok (.iconst 1, 1) := by decide +kernel
theorem dL_law_1283 : decode cL_law 1283 = .ok (.if_icmp .ne 7, 3) := by decide +kernel
theorem dL_law_1286 : decode cL_law 1286 = .ok (.iconst 1, 1) := by decide +kernel
theorem dL_law_1287 : decode cL_law 1287 = .ok (.goto 4, 3) := by decide +kernel
theorem dL_law_1290 : decode cL_law 1290 = .ok (.iconst 0, 1) := by decide +kernel
theorem dL_law_1291 : decode cL_law 1291 = .ok (.aload_n 1, 1) := by decide +kernel
theorem dL_law_1292 : decode cL_law 1292 = .ok (.iload 24, 2) := by decide +kernel
theorem dL_law_1294 : decode cL_law 1294 = .ok (.iconst 3, 1) := by decide +kernel
theorem dL_law_1295 : decode cL_law 1295 = .ok (.invokevirtual 55, 3) := by decide +kernel
theorem dL_law_1298 : decode cL_law 1298 = .ok (.ifCond .lt 7, 3) := by decide +kernel
theorem dL_law_1301 : decode cL_law 1301 = .ok (.iconst 1, 1) := by decide +kernel
theorem dL_law_1302 : decode cL_law 1302 = .ok (.goto 4, 3) := by decide +kernel
theorem dL_law_1305 : decode cL_law 1305 = .ok (.iconst 0, 1) := by decide +kernel
theorem dL_law_1306 : decode cL_law 1306 = .ok (.if_icmp .eq 5, 3) := by decide +kernel
theorem dL_law_1309 : decode cL_law 1309 = .ok (.iconst 0, 1) := by decide +kernel
theorem dL_law_1310 : decode cL_law 1310 = .ok (.ireturn, 1) := by decide +kernel
theorem dL_law_1311 : decode cL_law 1311 = .ok (.iload 27, 2) := by decide +kernel
theorem dL_law_1313 : decode cL_law 1313 = .ok (.ifCond .eq 72, 3) := by decide +kernel
theorem dL_law_1316 : decode cL_law 1316 = .ok (.iload 26, 2) := by decide +kernel
theorem dL_law_1318 : decode cL_law 1318 = .ok (.iload 28, 2) := by decide +kernel
theorem dL_law_1320 : decode cL_law 1320 = .ok (.if_icmp .eq 23, 3) := by decide +kernel
theorem dL_law_1323 : decode cL_law 1323 = .ok (.iload 26, 2) := by decide +kernel
theorem dL_law_1325 : decode cL_law 1325 = .ok (.iload 28, 2) := by decide +kernel
theorem dL_law_1327 : decode cL_law 1327 = .ok (.iconst 2, 1) := by decide +kernel
theorem dL_law_1328 : decode cL_law 1328 = .ok (.idiv, 1) := by decide +kernel
theorem dL_law_1329 : decode cL_law 1329 = .ok (.if_icmp .ne 61, 3) := by decide +kernel
theorem dL_law_1332 : decode cL_law 1332 = .ok (.aload 8, 2) := by decide +kernel
theorem dL_law_1334 : decode cL_law 1334 = .ok (.iload 24, 2) := by decide +kernel
theorem dL_law_1336 : decode cL_law 1336 = .ok (.aaload, 1) := by decide +kernel
theorem dL_law_1337 : decode cL_law 1337 = .ok (.bipush 6, 2) := by decide +kernel
theorem dL_law_1339 : decode cL_law 1339 = .ok (.iaload, 1) := by decide +kernel
theorem dL_law_1340 : decode cL_law 1340 = .ok (.ifCond .lt 50, 3) := by decide +kernel
theorem dL_law_1343 : decode cL_law 1343 = .ok (.aload_n 1, 1) := by decide +kernel
theorem dL_law_1344 : decode cL_law 1344 = .ok (.aload_n 1, 1) := by decide +kernel
theorem dL_law_1345 : decode cL_law 1345 = .ok (.iload 24, 2) := by decide +kernel
theorem dL_law_1347 : decode cL_law 1347 = .ok (.iconst 3, 1) := by decide +kernel
theorem dL_law_1348 : decode cL_law 1348 = .ok (.invokevirtual 55, 3) := by decide +kernel
theorem dL_law_1351 : decode cL_law 1351 = .ok (.iconst 0, 1) := by decide +kernel
theorem dL_law_1352 : decode cL_law 1352 = .ok (.invokevirtual 60, 3) := by decide +kernel
theorem dL_law_1355 : decode cL_law 1355 = .ok (.aload 8, 2) := by decide +kernel
theorem dL_law_1357 : decode cL_law 1357 = .ok (.iload 24, 2) := by decide +kernel
theorem dL_law_1359 : decode cL_law 1359 = .ok (.aaload, 1) := by decide +kernel
theorem dL_law_1360 : decode cL_law 1360 = .ok (.iconst 1, 1) := by decide +kernel
theorem dL_law_1361 : decode cL_law 1361 = .ok (.iaload, 1) := by decide +kernel
theorem dL_law_1362 : decode cL_law 1362 = .ok (.if_icmp .ne 28, 3) := by decide +kernel
theorem dL_law_1365 : decode cL_law 1365 = .ok (.aload_n 1, 1) := by decide +kernel
theorem dL_law_1366 : decode cL_law 1366 = .ok (.iload 24, 2) := by decide +kernel
theorem dL_law_1368 : decode cL_law 1368 = .ok (.iconst 1, 1) := by decide +kernel
theorem dL_law_1369 : decode cL_law 1369 = .ok (.invokevirtual 55, 3) := by decide +kernel
theorem dL_law_1372 : decode cL_law 1372 = .ok (.aload 8, 2) := by decide +kernel
theorem dL_law_1374 : decode cL_law 1374 = .ok (.iload 24, 2) := by decide +kernel
theorem dL_law_1376 : decode cL_law 1376 = .ok (.aaload, 1) := by decide +kernel
theorem dL_law_1377 : decode cL_law 1377 = .ok (.iconst 1, 1) := by decide +kernel
theorem dL_law_1378 : decode cL_law 1378 = .ok (.iaload, 1) := by decide +kernel
theorem dL_law_1379 : decode cL_law 1379 = .ok (.if_icmp .eq 13, 3) := by decide +kernel
theorem dL_law_1382 : decode cL_law 1382 = .ok (.goto 8, 3) := by decide +kernel
theorem dL_law_1385 : decode cL_law 1385 = .ok (.iload 26, 2) := by decide +kernel
theorem dL_law_1387 : decode cL_law 1387 = .ok (.ifCond .eq 5, 3) := by decide +kernel
theorem dL_law_1390 : decode cL_law 1390 = .ok (.iconst 0, 1) := by decide +kernel
theorem dL_law_1391 : decode cL_law 1391 = .ok (.ireturn, 1) := by decide +kernel
theorem dL_law_1392 : decode cL_law 1392 = .ok (.aload 8, 2) := by decide +kernel
theorem dL_law_1394 : decode cL_law 1394 = .ok (.iload 24, 2) := by decide +kernel
theorem dL_law_1396 : decode cL_law 1396 = .ok (.aaload, 1) := by decide +kernel
theorem dL_law_1397 : decode cL_law 1397 = .ok (.iconst 0, 1) := by decide +kernel
theorem dL_law_1398 : decode cL_law 1398 = .ok (.iaload, 1) := by decide +kernel
theorem dL_law_1399 : decode cL_law 1399 = .ok (.ifCond .ne 9, 3) := by decide +kernel
theorem dL_law_1402 : decode cL_law 1402 = .ok (.iload 25, 2) := by decide +kernel
theorem dL_law_1404 : decode cL_law 1404 = .ok (.iconst 2, 1) := by decide +kernel
theorem dL_law_1405 : decode cL_law 1405 = .ok (.if_icmp .eq 36, 3) := by decide +kernel
theorem dL_law_1408 : decode cL_law 1408 = .ok (.aload 8, 2) := by decide +kernel
theorem dL_law_1410 : decode cL_law 1410 = .ok (.iload 24, 2) := by decide +kernel
theorem dL_law_1412 : decode cL_law 1412 = .ok (.aaload, 1) := by decide +kernel
theorem dL_law_1413 : decode cL_law 1413 = .ok (.iconst 0, 1) := by decide +kernel
theorem dL_law_1414 : decode cL_law 1414 = .ok (.iaload, 1) := by decide +kernel
theorem dL_law_1415 : decode cL_law 1415 = .ok (.iconst 2, 1) := by decide +kernel
theorem dL_law_1416 : decode cL_law 1416 = .ok (.if_icmp .ne 9, 3) := by decide +kernel
theorem dL_law_1419 : decode cL_law 1419 = .ok (.iload 25, 2) := by decide +kernel
theorem dL_law_1421 : decode cL_law 1421 = .ok (.iconst 2, 1) := by decide +kernel
theorem dL_law_1422 : decode cL_law 1422 = .ok (.if_icmp .ne 19, 3) := by decide +kernel
theorem dL_law_1425 : decode cL_law 1425 = .ok (.aload 8, 2) := by decide +kernel
theorem dL_law_1427 : decode cL_law 1427 = .ok (.iload 24, 2) := by decide +kernel
theorem dL_law_1429 : decode cL_law 1429 = .ok (.aaload, 1) := by decide +kernel
theorem dL_law_1430 : decode cL_law 1430 = .ok (.iconst 0, 1) := by decide +kernel
theorem dL_law_1431 : decode cL_law 1431 = .ok (.iaload, 1) := by decide +kernel
theorem dL_law_1432 : decode cL_law 1432 = .ok (.iconst 1, 1) := by decide +kernel
theorem dL_law_1433 : decode cL_law 1433 = .ok (.if_icmp .ne 10, 3) := by decide +kernel
theorem dL_law_1436 : decode cL_law 1436 = .ok (.iload 25, 2) := by decide +kernel
theorem dL_law_1438 : decode cL_law 1438 = .ok (.ifCond .ne 5, 3) := by decide +kernel
theorem dL_law_1441 : decode cL_law 1441 = .ok (.iconst 0, 1) := by decide +kernel
theorem dL_law_1442 : decode cL_law 1442 = .ok (.ireturn, 1) := by decide +kernel
theorem dL_law_1443 : decode cL_law 1443 = .ok (.aload 8, 2) := by decide +kernel
theorem dL_law_1445 : decode cL_law 1445 = .ok (.iload 24, 2) := by decide +kernel
theorem dL_law_1447 : decode cL_law 1447 = .ok (.aaload, 1) := by decide +kernel
theorem dL_law_1448 : decode cL_law 1448 = .ok (.iconst 0, 1) := by decide +kernel
theorem dL_law_1449 : decode cL_law 1449 = .ok (.iaload, 1) := by decide +kernel
theorem dL_law_1450 : decode cL_law 1450 = .ok (.iconst 1, 1) := by decide +kernel
theorem dL_law_1451 : decode cL_law 1451 = .ok (.if_icmp .ne 63, 3) := by decide +kernel
theorem dL_law_1454 : decode cL_law 1454 = .ok (.iload 25, 2) := by decide +kernel
theorem dL_law_1456 : decode cL_law 1456 = .ok (.iconst 2, 1) := by decide +kernel
theorem dL_law_1457 : decode cL_law 1457 = .ok (.if_icmp .ne 57, 3) := by decide +kernel
theorem dL_law_1460 : decode cL_law 1460 = .ok (.aload_n 1, 1) := by decide +kernel
theorem dL_law_1461 : decode cL_law 1461 = .ok (.iload 24, 2) := by decide +kernel
theorem dL_law_1463 : decode cL_law 1463 = .ok (.iconst 1, 1) := by decide +kernel
theorem dL_law_1464 : decode cL_law 1464 = .ok (.invokevirtual 55, 3) := by decide +kernel
theorem dL_law_1467 : decode cL_law 1467 = .ok (.aload 8, 2) := by decide +kernel
theorem dL_law_1469 : decode cL_law 1469 = .ok (.iload 24, 2) := by decide +kernel
theorem dL_law_1471 : decode cL_law 1471 = .ok (.aaload, 1) := by decide +kernel
theorem dL_law_1472 : decode cL_law 1472 = .ok (.iconst 2, 1) := by decide +kernel
theorem dL_law_1473 : decode cL_law 1473 = .ok (.iaload, 1) := by decide +kernel
theorem dL_law_1474 : decode cL_law 1474 = .ok (.if_icmp .ne 38, 3) := by decide +kernel
theorem dL_law_1477 : decode cL_law 1477 = .ok (.aload_n 1, 1) := by decide +kernel
theorem dL_law_1478 : decode cL_law 1478 = .ok (.iload 24, 2) := by decide +kernel
theorem dL_law_1480 : decode cL_law 1480 = .ok (.bipush 6, 2) := by decide +kernel
theorem dL_law_1482 : decode cL_law 1482 = .ok (.invokevirtual 55, 3) := by decide +kernel
theorem dL_law_1485 : decode cL_law 1485 = .ok (.iload 7, 2) := by decide +kernel
theorem dL_law_1487 : decode cL_law 1487 = .ok (.if_icmp .ne 25, 3) := by decide +kernel
theorem dL_law_1490 : decode cL_law 1490 = .ok (.aload_n 1, 1) := by decide +kernel
theorem dL_law_1491 : decode cL_law 1491 = .ok (.aload 8, 2) := by decide +kernel
theorem dL_law_1493 : decode cL_law 1493 = .ok (.iload 24, 2) := by decide +kernel
theorem dL_law_1495 : decode cL_law 1495 = .ok (.aaload, 1) := by decide +kernel
theorem dL_law_1496 : decode cL_law 1496 = .ok (.iconst 3, 1) := by decide +kernel
theorem dL_law_1497 : decode cL_law 1497 = .ok (.iaload, 1) := by decide +kernel
theorem dL_law_1498 : decode cL_law 1498 = .ok (.iconst 0, 1) := by decide +kernel
theorem dL_law_1499 : decode cL_law 1499 = .ok (.invokevirtual 60, 3) := by decide +kernel
theorem dL_law_1502 : decode cL_law 1502 = .ok (.aload 8, 2) := by decide +kernel
theorem dL_law_1504 : decode cL_law 1504 = .ok (.iload 24, 2) := by decide +kernel
theorem dL_law_1506 : decode cL_law 1506 = .ok (.aaload, 1) := by decide +kernel
theorem dL_law_1507 : decode cL_law 1507 = .ok (.iconst 2, 1) := by decide +kernel
theorem dL_law_1508 : decode cL_law 1508 = .ok (.iaload, 1) := by decide +kernel
theorem dL_law_1509 : decode cL_law 1509 = .ok (.if_icmp .eq 5, 3) := by decide +kernel
theorem dL_law_1512 : decode cL_law 1512 = .ok (.iconst 0, 1) := by decide +kernel
theorem dL_law_1513 : decode cL_law 1513 = .ok (.ireturn, 1) := by decide +kernel
theorem dL_law_1514 : decode cL_law 1514 = .ok (.aload 8, 2) := by decide +kernel
theorem dL_law_1516 : decode cL_law 1516 = .ok (.iload 24, 2) := by decide +kernel
theorem dL_law_1518 : decode cL_law 1518 = .ok (.aaload, 1) := by decide +kernel
theorem dL_law_1519 : decode cL_law 1519 = .ok (.iconst 0, 1) := by decide +kernel
theorem dL_law_1520 : decode cL_law 1520 = .ok (.iaload, 1) := by decide +kernel
theorem dL_law_1521 : decode cL_law 1521 = .ok (.iconst 1, 1) := by decide +kernel
theorem dL_law_1522 : decode cL_law 1522 = .ok (.if_icmp .ne 26, 3) := by decide +kernel
theorem dL_law_1525 : decode cL_law 1525 = .ok (.iload 25, 2) := by decide +kernel
theorem dL_law_1527 : decode cL_law 1527 = .ok (.iconst 1, 1) := by decide +kernel
theorem dL_law_1528 : decode cL_law 1528 = .ok (.if_icmp .ne 20, 3) := by decide +kernel
theorem dL_law_1531 : decode cL_law 1531 = .ok (.aload_n 1, 1) := by decide +kernel
theorem dL_law_1532 : decode cL_law 1532 = .ok (.iload 24, 2) := by decide +kernel
theorem dL_law_1534 : decode cL_law 1534 = .ok (.iconst 3, 1) := by decide +kernel
theorem dL_law_1535 : decode cL_law 1535 = .ok (.invokevirtual 55, 3) := by decide +kernel
theorem dL_law_1538 : decode cL_law 1538 = .ok (.aload 8, 2) := by decide +kernel
theorem dL_law_1540 : decode cL_law 1540 = .ok (.iload 24, 2) := by decide +kernel
theorem dL_law_1542 : decode cL_law 1542 = .ok (.aaload, 1) := by decide +kernel
theorem dL_law_1543 : decode cL_law 1543 = .ok (.iconst 3, 1) := by decide +kernel
theorem dL_law_1544 : decode cL_law 1544 = .ok (.iaload, 1) := by decide +kernel
theorem dL_law_1545 : decode cL_law 1545 = .ok (.if_icmp .ne 28, 3) := by decide +kernel
theorem dL_law_1548 : decode cL_law 1548 = .ok (.iload 25, 2) := by decide +kernel
theorem dL_law_1550 : decode cL_law 1550 = .ok (.iconst 2, 1) := by decide +kernel
theorem dL_law_1551 : decode cL_law 1551 = .ok (.if_icmp .eq 24, 3) := by decide +kernel
theorem dL_law_1554 : decode cL_law 1554 = .ok (.aload_n 1, 1) := by decide +kernel
theorem dL_law_1555 : decode cL_law 1555 = .ok (.iload 24, 2) := by decide +kernel
theorem dL_law_1557 : decode cL_law 1557 = .ok (.bipush 6, 2) := by decide +kernel
theorem dL_law_1559 : decode cL_law 1559 = .ok (.invokevirtual 55, 3) := by decide +kernel
theorem dL_law_1562 : decode cL_law 1562 = .ok (.aload 8, 2) := by decide +kernel
theorem dL_law_1564 : decode cL_law 1564 = .ok (.iload 24, 2) := by decide +kernel
theorem dL_law_1566 : decode cL_law 1566 = .ok (.aaload, 1) := by decide +kernel
theorem dL_law_1567 : decode cL_law 1567 = .ok (.bipush 6, 2) := by decide +kernel
theorem dL_law_1569 : decode cL_law 1569 = .ok (.iaload, 1) := by decide +kernel
theorem dL_law_1570 : decode cL_law 1570 = .ok (.if_icmp .eq 5, 3) := by decide +kernel
theorem dL_law_1573 : decode cL_law 1573 = .ok (.iconst 0, 1) := by decide +kernel
theorem dL_law_1574 : decode cL_law 1574 = .ok (.ireturn, 1) := by decide +kernel
theorem dL_law_1575 : decode cL_law 1575 = .ok (.iload 24, 2) := by decide +kernel
theorem dL_law_1577 : decode cL_law 1577 = .ok (.iload 17, 2) := by decide +kernel
theorem dL_law_1579 : decode cL_law 1579 = .ok (.if_icmp .ne 35, 3) := by decide +kernel
theorem dL_law_1582 : decode cL_law 1582 = .ok (.iload 18, 2) := by decide +kernel
theorem dL_law_1584 : decode cL_law 1584 = .ok (.ifCond .le 30, 3) := by decide +kernel
theorem dL_law_1587 : decode cL_law 1587 = .ok (.iload 18, 2) := by decide +kernel
theorem dL_law_1589 : decode cL_law 1589 = .ok (.iconst 1, 1) := by decide +kernel
theorem dL_law_1590 : decode cL_law 1590 = .ok (.if_icmp .ne 7, 3) := by decide +kernel
theorem dL_law_1593 : decode cL_law 1593 = .ok (.iconst 1, 1) := by decide +kernel
theorem dL_law_1594 : decode cL_law 1594 = .ok (.goto 4, 3) := by decide +kernel
theorem dL_law_1597 : decode cL_law 1597 = .ok (.iconst 0, 1) := by decide +kernel
theorem dL_law_1598 : decode cL_law 1598 = .ok (.iload 25, 2) := by decide +kernel
theorem dL_law_1600 : decode cL_law 1600 = .ok (.iconst 2, 1) := by decide +kernel
theorem dL_law_1601 : decode cL_law 1601 = .ok (.if_icmp .ne 7, 3) := by decide +kernel
theorem dL_law_1604 : decode cL_law 1604 = .ok (.iconst 1, 1) := by decide +kernel
theorem dL_law_1605 : decode cL_law 1605 = .ok (.goto 4, 3) := by decide +kernel
theorem dL_law_1608 : decode cL_law 1608 = .ok (.iconst 0, 1) := by decide +kernel
theorem dL_law_1609 : decode cL_law 1609 = .ok (.if_icmp .eq 5, 3) := by decide +kernel
theorem dL_law_1612 : decode cL_law 1612 = .ok (.iconst 0, 1) := by decide +kernel
theorem dL_law_1613 : decode cL_law 1613 = .ok (.ireturn, 1) := by decide +kernel
theorem dL_law_1614 : decode cL_law 1614 = .ok (.iinc 24 1, 3) := by decide +kernel
theorem dL_law_1617 : decode cL_law 1617 = .ok (.goto (-497), 3) := by decide +kernel
theorem dL_law_1620 : decode cL_law 1620 = .ok (.iload 22, 2) := by decide +kernel
theorem dL_law_1622 : decode cL_law 1622 = .ok (.iload 20, 2) := by decide +kernel
theorem dL_law_1624 : decode cL_law 1624 = .ok (.if_icmp .ne 56, 3) := by decide +kernel
theorem dL_law_1627 : decode cL_law 1627 = .ok (.iload 23, 2) := by decide +kernel
theorem dL_law_1629 : decode cL_law 1629 = .ok (.iload 21, 2) := by decide +kernel
theorem dL_law_1631 : decode cL_law 1631 = .ok (.if_icmp .ne 49, 3) := by decide +kernel
theorem dL_law_1634 : decode cL_law 1634 = .ok (.iload 23, 2) := by decide +kernel
theorem dL_law_1636 : decode cL_law 1636 = .ok (.aload_n 1, 1) := by decide +kernel
theorem dL_law_1637 : decode cL_law 1637 = .ok (.bipush 7, 2) := by decide +kernel
theorem dL_law_1639 : decode cL_law 1639 = .ok (.invokevirtual 52, 3) := by decide +kernel
theorem dL_law_1642 : decode cL_law 1642 = .ok (.if_icmp .ne 38, 3) := by decide +kernel
theorem dL_law_1645 : decode cL_law 1645 = .ok (.aload_n 1, 1) := by decide +kernel
theorem dL_law_1646 : decode cL_law 1646 = .ok (.iconst 4, 1) := by decide +kernel
theorem dL_law_1647 : decode cL_law 1647 = .ok (.invokevirtual 52, 3) := by decide +kernel
theorem dL_law_1650 : decode cL_law 1650 = .ok (.aload_n 1, 1) := by decide +kernel
theorem dL_law_1651 : decode cL_law 1651 = .ok (.iconst 5, 1) := by decide +kernel
theorem dL_law_1652 : decode cL_law 1652 = .ok (.invokevirtual 52, 3) := by decide +kernel
theorem dL_law_1655 : decode cL_law 1655 = .ok (.iadd, 1) := by decide +kernel
theorem dL_law_1656 : decode cL_law 1656 = .ok (.aload_n 1, 1) := by decide +kernel
theorem dL_law_1657 : decode cL_law 1657 = .ok (.bipush 6, 2) := by decide +kernel
theorem dL_law_1659 : decode cL_law 1659 = .ok (.invokevirtual 52, 3) := by decide +kernel
theorem dL_law_1662 : decode cL_law 1662 = .ok (.iadd, 1) := by decide +kernel
theorem dL_law_1663 : decode cL_law 1663 = .ok (.iload 4, 2) := by decide +kernel
theorem dL_law_1665 : decode cL_law 1665 = .ok (.if_icmp .ne 15, 3) := by decide +kernel
theorem dL_law_1668 : decode cL_law 1668 = .ok (.aload_n 1, 1) := by decide +kernel
theorem dL_law_1669 : decode cL_law 1669 = .ok (.iconst 0, 1) := by decide +kernel
theorem dL_law_1670 : decode cL_law 1670 = .ok (.bipush 9, 2) := by decide +kernel
theorem dL_law_1672 : decode cL_law 1672 = .ok (.invokevirtual 84, 3) := by decide +kernel
theorem dL_law_1675 : decode cL_law 1675 = .ok (.bipush 11, 2) := by decide +kernel
theorem dL_law_1677 : decode cL_law 1677 = .ok (.if_icmp .le 5, 3) := by decide +kernel
theorem dL_law_1680 : decode cL_law 1680 = .ok (.iconst 0, 1) := by decide +kernel
theorem dL_law_1681 : decode cL_law 1681 = .ok (.ireturn, 1) := by decide +kernel
theorem dL_law_1682 : decode cL_law 1682 = .ok (.iinc 2 1, 3) := by decide +kernel
theorem dL_law_1685 : decode cL_law 1685 = .ok (.goto (-1678), 3) := by decide +kernel
theorem dL_law_1688 : decode cL_law 1688 = .ok (.iconst 1, 1) := by decide +kernel
theorem dL_law_1689 : decode cL_law 1689 = .ok (.ireturn, 1) := by decide +kernel
end
section
/-! THE SYSTEM'S WORLD. All cells lie side by side from the address b on, in the order of their making: the number i of a cell is its address less b.
0 BusStage; a line o (1: line, 71: trial): o the Line, o+1 stops, o+2 buses, o+3 passengers, o+4.. ten Stops, o+14.. six Buses, o+20.. fifty Passengers;
the law's own arrays lie behind them; w: nothing.
g i k: the int field (or place) k of the cell i. -/
abbrev S2 : Type := Nat → Nat → Int32
abbrev CX : Type := va_G × (Nat → ClassId)
def u2 (g : S2) (i k : Nat) (x : Int32) : S2 := fun a => if a = i then upd (g i) k x else g a
theorem u2_row {g : S2} {i k : Nat} {x : Int32} : u2 g i k x i = upd (g i) k x := by simp [u2]
theorem u2_ne {g : S2} {i k a : Nat} {x : Int32} (h : a ≠ i) : u2 g i k x a = g a := by simp [u2, h]
theorem u2_s {g : S2} {i k : Nat} {x : Int32} : u2 g i k x i k = x := by simp [u2, upd]
theorem u2_k {g : S2} {i k j : Nat} {x : Int32} (h : j ≠ k) : u2 g i k x i j = g i j := by simp [u2, upd, h]
theorem u2_n {g : S2} {i k a j : Nat} {x : Int32} (h : a ≠ i) : u2 g i k x a j = g a j := by simp [u2, h]
theorem u2_app {g : S2} {i k a j : Nat} {x : Int32} : u2 g i k x a j = if a = i ∧ j = k then x else g a j := by
  by_cases h : a = i
  · subst h
    by_cases h2 : j = k
    · subst h2; simp [u2, upd]
    · simp [u2, upd, h2]
  · simp [u2, h]
def isL (i : Nat) : Prop := i = 1 ∨ i = 71
def isS (i : Nat) : Prop := (5 ≤ i ∧ i < 15) ∨ (75 ≤ i ∧ i < 85)
def isB (i : Nat) : Prop := (15 ≤ i ∧ i < 21) ∨ (85 ≤ i ∧ i < 91)
def isP (i : Nat) : Prop := (21 ≤ i ∧ i < 71) ∨ (91 ≤ i ∧ i < 141)
def Ent (X : CX) (b : Nat) (g : S2) (_ : Int64) (i : Nat) : va_E :=
  if i = 0 then .inr (4, [.ref (b + 1), .ref (b + 71)])
  else if i = 1 ∨ i = 71 then .inr (1, [.ref (b + (i + 1)), .ref (b + (i + 2)), .ref (b + (i + 3)), .int (g i 3), .int (g i 4), .int (g i 5), .int (g i 6)])
  else if i = 2 ∨ i = 72 then .inl (X.2 2, 10, .inr (.inr (.inr (.inr fun j => some (b + (i + 3 + j))))))
  else if i = 3 ∨ i = 73 then .inl (X.2 3, 6, .inr (.inr (.inr (.inr fun j => some (b + (i + 12 + j))))))
  else if i = 4 ∨ i = 74 then .inl (X.2 4, 50, .inr (.inr (.inr (.inr fun j => some (b + (i + 17 + j))))))
  else if i < 15 ∨ (75 ≤ i ∧ i < 85) then .inr (3, [.int (g i 0), .int (g i 1), .int (g i 2)])
  else if i < 21 ∨ (85 ≤ i ∧ i < 91) then .inr (0, [.int (g i 0), .int (g i 1), .int (g i 2), .int (g i 3), .int (g i 4), .int (g i 5), .int (g i 6)])
  else .inr (2, [.int (g i 0), .int (g i 1), .int (g i 2), .int (g i 3), .int (g i 4), .int (g i 5), .int (g i 6), .int (g i 7)])
theorem Ent_congr {X : CX} {b : Nat} {g g' : S2} {w : Int64} {i : Nat} (h : g i = g' i) : Ent X b g w i = Ent X b g' w i := by
  unfold Ent
  rw [h]
theorem Ent_0 {X : CX} {b : Nat} {g : S2} {w : Int64} : Ent X b g w 0 = .inr (4, [.ref (b + 1), .ref (b + 71)]) := by
  unfold Ent; rw [if_pos rfl]
theorem Ent_L {X : CX} {b : Nat} {g : S2} {w : Int64} {i : Nat} (h : isL i) : Ent X b g w i = .inr (1, [.ref (b + (i + 1)), .ref (b + (i + 2)), .ref (b + (i + 3)), .int (g i 3), .int (g i 4), .int (g i 5), .int (g i 6)]) := by
  unfold isL at h; unfold Ent; rw [if_neg (by omega), if_pos (by omega)]
theorem Ent_aS {X : CX} {b : Nat} {g : S2} {w : Int64} {o : Nat} (h : isL o) : Ent X b g w (o + 1) = .inl (X.2 2, 10, .inr (.inr (.inr (.inr fun j => some (b + (o + 4 + j)))))) := by
  unfold isL at h; unfold Ent; rw [if_neg (by omega), if_neg (by omega), if_pos (by omega)]
theorem Ent_aB {X : CX} {b : Nat} {g : S2} {w : Int64} {o : Nat} (h : isL o) : Ent X b g w (o + 2) = .inl (X.2 3, 6, .inr (.inr (.inr (.inr fun j => some (b + (o + 14 + j)))))) := by
  unfold isL at h; unfold Ent; rw [if_neg (by omega), if_neg (by omega), if_neg (by omega), if_pos (by omega)]
theorem Ent_aP {X : CX} {b : Nat} {g : S2} {w : Int64} {o : Nat} (h : isL o) : Ent X b g w (o + 3) = .inl (X.2 4, 50, .inr (.inr (.inr (.inr fun j => some (b + (o + 20 + j)))))) := by
  unfold isL at h; unfold Ent; rw [if_neg (by omega), if_neg (by omega), if_neg (by omega), if_neg (by omega), if_pos (by omega)]
theorem Ent_S {X : CX} {b : Nat} {g : S2} {w : Int64} {i : Nat} (h : isS i) : Ent X b g w i = .inr (3, [.int (g i 0), .int (g i 1), .int (g i 2)]) := by
  unfold isS at h; unfold Ent; rw [if_neg (by omega), if_neg (by omega), if_neg (by omega), if_neg (by omega), if_neg (by omega), if_pos (by omega)]
theorem Ent_B {X : CX} {b : Nat} {g : S2} {w : Int64} {i : Nat} (h : isB i) : Ent X b g w i = .inr (0, [.int (g i 0), .int (g i 1), .int (g i 2), .int (g i 3), .int (g i 4), .int (g i 5), .int (g i 6)]) := by
  unfold isB at h; unfold Ent; rw [if_neg (by omega), if_neg (by omega), if_neg (by omega), if_neg (by omega), if_neg (by omega), if_neg (by omega), if_pos (by omega)]
theorem Ent_P {X : CX} {b : Nat} {g : S2} {w : Int64} {i : Nat} (h : isP i) : Ent X b g w i = .inr (2, [.int (g i 0), .int (g i 1), .int (g i 2), .int (g i 3), .int (g i 4), .int (g i 5), .int (g i 6), .int (g i 7)]) := by
  unfold isP at h; unfold Ent; rw [if_neg (by omega), if_neg (by omega), if_neg (by omega), if_neg (by omega), if_neg (by omega), if_neg (by omega), if_neg (by omega)]
def wd (X : CX) (b : Nat) (g : S2) (w : Int64) (H : Heap) : Prop := b + 141 ≤ H.size ∧ ∀ i, i < 141 → va_at X.1 vwCl (b + i, Ent X b g w i) H
def tyl (X : CX) : List (ClassId × FieldType) := [(X.2 0, .int), (X.2 1, .array .int), (X.2 2, .object RX3), (X.2 3, .object RX0), (X.2 4, .object RX2)]
def KW (U : State) : Prop := ∀ w ∈ lw_tbl, lw_ext w = true → va_Nw w U
def KK (X : CX) (U : State) : Prop := va_K X.1 vwCl (tyl X) U ∧ KW U
theorem ext_tables {w : Cond} (h : lw_ext w = true) : w.onTables = true := by
  cases w <;> first | rfl | (simp [lw_ext] at h)
theorem KW.same {u U : State} (h : u.vm = U.vm) (k : KW u) : KW U := fun w hw he => va_Nw.same (ext_tables he) h (k w hw he)
theorem KW.warm {s U : State} (hW : s.WarmedH U.vm) (k : KW s) : KW U := by
  intro w hw he
  have h1 := k w hw he
  cases w
  case fieldLinkNest => exact va_Nw.warmF hW h1
  case methodLinkNest => exact va_Nw.warmM hW h1
  case declares => exact va_tabs (u := s.setVm U.vm) (A := #[]) rfl rfl (by rw [Cond.declares_setVm hW.alike]; exact h1)
  case castable => exact va_tabs (u := s.setVm U.vm) (A := #[]) rfl rfl (by rw [Cond.castable_setVm hW.alike]; exact h1)
  case privateMethod => exact va_tabs (u := s.setVm U.vm) (A := #[]) rfl rfl (by rw [Cond.privateMethod_setVm hW.alike]; exact h1)
  all_goals (simp [lw_ext] at he)
theorem KK.warm {X : CX} {s U : State} (hW : s.WarmedH U.vm) (k : KK X s) : KK X U := ⟨va_K.moved hW.alike k.1, k.2.warm hW⟩
theorem KK.blind {X : CX} {U : State} {g : JFrame} {mk : MethodId} {a : Array Value} (k : KK X U) : KK X (U.calling g mk a) := ⟨va_K.moved (u := U) (U := U.calling g mk a) (Vm.Alike.refl U.vm) k.1, KW.same (u := U) (U := U.calling g mk a) rfl k.2⟩
theorem KK.nw {X : CX} {s : State} (k : KK X s) {w : Cond} (h : w ∈ lw_tbl) (he : lw_ext w = true) : va_Nw w s := k.2 w h he
abbrev wsg (y : MethodName) (cc : ByteArray) (n : Nat) (ret : Option FieldType) : List Cond := Cond.code y cc n ret :: lw_good
theorem hts_of {y : MethodName} {cc : ByteArray} {n : Nat} {ret : Option FieldType} {args : Array Value} {s : State} (h : ∀ w ∈ wsg y cc n ret, w.before args s = true) : ∀ w ∈ lw_good, w.before args s = true := fun w hw => h w (List.mem_cons_of_mem _ hw)
theorem good_in {y : MethodName} {cc : ByteArray} {n : Nat} {ret : Option FieldType} (h : Cond.code y cc n ret ∈ lw_good) : GoodIn lw_good (wsg y cc n ret) := by
  intro w hw
  rcases List.mem_cons.mp hw with rfl | hw
  · exact ⟨h, good_of_word (lw_good_word h)⟩
  · exact ⟨hw, good_of_word (lw_good_word hw)⟩
/-- a method's start: the world g (the law's long w), the tables; its ends -/
def Pre (X : CX) (b : Nat) (g : S2) (w : Int64) (av : List Value) : Array Value → State → Prop := va_Pc av (fun U => wd X b g w U.heap ∧ KK X U)
theorem Pre_blind {X : CX} {b : Nat} {g : S2} {w : Int64} {av : List Value} : FrameBlind (Pre X b g w av) := fun _ _ _ _ q => ⟨q.1, q.2.1, q.2.2.blind⟩
abbrev AA (b : Nat) : Nat → Prop := fun q => b ≤ q ∧ q < b + 141
abbrev Qi (X : CX) (b : Nat) (w : Int64) (post : Int32 → S2 → Prop) := va_Qi post (fun g t => wd X b g w t.heap) (AA b)
abbrev Ql (X : CX) (b : Nat) (w : Int64) (post : Int64 → S2 → Prop) := va_Ql post (fun g t => wd X b g w t.heap) (AA b)
abbrev Qv (X : CX) (b : Nat) (w : Int64) (post : S2 → Prop) := va_Qv post (fun g t => wd X b g w t.heap) (AA b)
abbrev Qr (X : CX) (b : Nat) (w : Int64) (post : Nat → S2 → Prop) := va_Qr (fun _ : S2 => True) (fun g a t => post a g ∧ wd X b g w t.heap) (AA b)
theorem wd_P {X : CX} {b : Nat} {g : S2} {w : Int64} {H : Heap} (h : wd X b g w H) {i : Nat} (hi : i < 141) {e : va_E} (he : Ent X b g w i = e) : va_P X.1 vwCl [(b + i, e)] H := by
  intro k q hk
  match k, hk with
  | 0, hk => cases hk; rw [← he]; exact h.2 i hi
  | k + 1, hk => simp at hk
theorem wd_put {X : CX} {b : Nat} {g : S2} {w : Int64} {H H1 : Heap} (h : wd X b g w H) {i k : Nat} {x : Int32} (hz : H1.size = H.size) (ha : va_at X.1 vwCl (b + i, Ent X b (u2 g i k x) w i) H1) (ho : ∀ q : Nat, q ≠ b + i → H1[q]? = H[q]?) : wd X b (u2 g i k x) w H1 := by
  refine ⟨by rw [hz]; exact h.1, fun j hj => ?_⟩
  by_cases e : j = i
  · subst e; exact ha
  · rw [Ent_congr (u2_ne e)]
    exact (h.2 j hj).kept (ho (b + j) (by omega))
section WR
variable {p : Program} {l : Launch} {e : Env} {R : Room} {s : State} {m : MethodId} {args : Array Value} {below : List Frame} {meth : Method} {c : Code} {H : Heap} {locs : List Loc} {cells slots : Nat} {Q : State → Prop}
variable {cc : ByteArray} {pc : Nat} {ls : Array Slot} {rest : List Value} {X : CX} {b : Nat} {g : S2} {w : Int64} {H0 : Heap}
theorem w_get (hexec : p.tables.exec = Jvm.exec) (hb : c.code = cc) {own ref C : String} {T : u_T} {N ci index : Nat} (hts : ∀ w ∈ lw_good, w.before args s = true) (hin : ∀ w ∈ u_ws C T N, w ∈ lw_good) (hown : s.vm.findClass own = some m.cls) (hK : KK X s) (hW : wd X b g w H) {i : Nat} (hi : i < 141) {fs : List Value} (he : Ent X b g w i = .inr (ci, fs)) (hc : vwCl[ci]? = some (C, T, N)) (k : Nat) (hk : k < N) (hlink : Cond.fieldLink own index ref (T k).2.1 (T k).2.2.1 ∈ lw_good) (hsame : ∀ x, s.fieldFound? (T k).1 (T k).2.1 (T k).2.2.1 = some x → s.fieldFound? ref (T k).2.1 (T k).2.2.1 = some x) {v : Value} (hv : fs[k]? = some v) (hdg : decode cc pc = .ok (.getfield index, 3))
    (kk : W p l e R s m args below meth c H locs cells slots Q (F0 m (pc + 3) ls (v :: rest))) : W p l e R s m args below meth c H locs cells slots Q (F0 m pc ls (.ref (b + i) :: rest)) :=
  va_get hexec hb hts hin hown hK.1 (wd_P hW hi he) 0 rfl hc k hk (hts _ hlink) hsame hv hdg kk
theorem w_getN (hexec : p.tables.exec = Jvm.exec) (hb : c.code = cc) {own ref C host : String} {T : u_T} {N ci index : Nat} (hts : ∀ w ∈ lw_good, w.before args s = true) (hin : ∀ w ∈ u_ws C T N, w ∈ lw_good) (hown : s.vm.findClass own = some m.cls) (hK : KK X s) (hW : wd X b g w H) {i : Nat} (hi : i < 141) {fs : List Value} (he : Ent X b g w i = .inr (ci, fs)) (hc : vwCl[ci]? = some (C, T, N)) (k : Nat) (hk : k < N) (hlink : Cond.fieldLinkNest own index ref (T k).2.1 (T k).2.2.1 host ∈ lw_tbl) (hsame : ∀ x, s.fieldFound? (T k).1 (T k).2.1 (T k).2.2.1 = some x → s.fieldFound? ref (T k).2.1 (T k).2.2.1 = some x) {v : Value} (hv : fs[k]? = some v) (hdg : decode cc pc = .ok (.getfield index, 3))
    (kk : W p l e R s m args below meth c H locs cells slots Q (F0 m (pc + 3) ls (v :: rest))) : W p l e R s m args below meth c H locs cells slots Q (F0 m pc ls (.ref (b + i) :: rest)) :=
  va_getN hexec hb hts hin hown hK.1 (wd_P hW hi he) 0 rfl hc k hk (va_Nw.use rfl (hK.nw hlink rfl)) hsame hv hdg kk
theorem w_put (hexec : p.tables.exec = Jvm.exec) (hb : c.code = cc) {own ref C : String} {T : u_T} {N ci index : Nat} (hts : ∀ w ∈ lw_good, w.before args s = true) (hin : ∀ w ∈ u_ws C T N, w ∈ lw_good) (ty0 : Nat → FieldType) (hty : ∀ k, k < N → parseFieldDescriptor (T k).2.2.1 = some (ty0 k)) (hnm : ∀ a, a < N → ∀ b, b < N → a ≠ b → (T a).2.1 ≠ (T b).2.1) (hown : s.vm.findClass own = some m.cls) (hK : KK X s) (hW : wd X b g w H) (hS0 : va_S (AA b) H0 H locs) {i : Nat} (hi : i < 141) {fs : List Value} (he : Ent X b g w i = .inr (ci, fs)) (hc : vwCl[ci]? = some (C, T, N)) (k : Nat) (hk : k < N) (hlink : Cond.fieldLink own index ref (T k).2.1 (T k).2.2.1 ∈ lw_good) (hsame : ∀ x, s.fieldFound? (T k).1 (T k).2.1 (T k).2.2.1 = some x → s.fieldFound? ref (T k).2.1 (T k).2.2.1 = some x) (hfin : (T k).2.2.2 = false) {x : Int32} (hn : narrow (ty0 k) (.int x) = .int x) (hfit : fits (ty0 k) (.int x) = true) (hl : k < fs.length) (hset : Ent X b (u2 g i k x) w i = .inr (ci, fs.set k (.int x)))
    (hdg : decode cc pc = .ok (.putfield index, 3)) (kk : ∀ (H1 : Heap) (locs1 : List Loc), wd X b (u2 g i k x) w H1 → va_S (AA b) H0 H1 locs1 → W p l e R s m args below meth c H1 locs1 cells slots Q (F0 m (pc + 3) ls rest)) : W p l e R s m args below meth c H locs cells slots Q (F0 m pc ls (.int x :: .ref (b + i) :: rest)) := by
  have hap := va_apart (own := own) hts hin ty0 hty hnm hK.1 hc
  obtain ⟨r, h1, cell, q1, q2, q3, q4⟩ := (wd_P hW hi he) 0 _ rfl
  have hr : r = (C, T, N) := Option.some.inj (h1.symm.trans hc)
  subst hr
  obtain ⟨hS, hfc, kC, hkC, hkind⟩ := hK.1.1 ci _ hc
  obtain ⟨cf, kf, fi, f, hf, hsl⟩ := hS k hk
  have hlay := hts _ (hin _ (u_in_lay hk))
  unfold u_lay at hlay
  rw [if_neg (by rw [hfin]; decide)] at hlay
  have hst := (u_facts hfc hkC (u_lays hts hin hk) hf).1
  have h6 := u_store hfc hkC hkind hlay hf (hty k hk) hn hfit
  refine W.putK hexec hb (f := f) ⟨hown, hts _ hlink, ⟨_, _, _, hsame _ hf⟩, hst⟩ (by rw [q2]; exact h6) q1 q3 (by rw [hsl]; exact k2_hasslot (q4 k hk)) rfl rfl hdg fun H' e1 e2 e3 => ?_
  rw [hsl] at e1 ⊢
  refine kk H' _ (wd_put hW e2 ?_ e3) (hS0.put e2 e3 ⟨Nat.le_add_right b i, Nat.add_lt_add_left hi b⟩)
  rw [hset]
  exact ⟨_, hc, t_OB.to (V := updV (vp_V fs) k (.int x)) ⟨_, e1, q2, q3, t_set q4 hap hk (.int x)⟩ (fun j _ => vp_updV_set hl (.int x) j)⟩
theorem w_putN (hexec : p.tables.exec = Jvm.exec) (hb : c.code = cc) {own ref C host : String} {T : u_T} {N ci index : Nat} (hts : ∀ w ∈ lw_good, w.before args s = true) (hin : ∀ w ∈ u_ws C T N, w ∈ lw_good) (ty0 : Nat → FieldType) (hty : ∀ k, k < N → parseFieldDescriptor (T k).2.2.1 = some (ty0 k)) (hnm : ∀ a, a < N → ∀ b, b < N → a ≠ b → (T a).2.1 ≠ (T b).2.1) (hown : s.vm.findClass own = some m.cls) (hK : KK X s) (hW : wd X b g w H) (hS0 : va_S (AA b) H0 H locs) {i : Nat} (hi : i < 141) {fs : List Value} (he : Ent X b g w i = .inr (ci, fs)) (hc : vwCl[ci]? = some (C, T, N)) (k : Nat) (hk : k < N) (hlink : Cond.fieldLinkNest own index ref (T k).2.1 (T k).2.2.1 host ∈ lw_tbl) (hsame : ∀ x, s.fieldFound? (T k).1 (T k).2.1 (T k).2.2.1 = some x → s.fieldFound? ref (T k).2.1 (T k).2.2.1 = some x) (hfin : (T k).2.2.2 = false) {x : Int32} (hn : narrow (ty0 k) (.int x) = .int x) (hfit : fits (ty0 k) (.int x) = true) (hl : k < fs.length) (hset : Ent X b (u2 g i k x) w i = .inr (ci, fs.set k (.int x)))
    (hdg : decode cc pc = .ok (.putfield index, 3)) (kk : ∀ (H1 : Heap) (locs1 : List Loc), wd X b (u2 g i k x) w H1 → va_S (AA b) H0 H1 locs1 → W p l e R s m args below meth c H1 locs1 cells slots Q (F0 m (pc + 3) ls rest)) : W p l e R s m args below meth c H locs cells slots Q (F0 m pc ls (.int x :: .ref (b + i) :: rest)) := by
  have hap := va_apart (own := own) hts hin ty0 hty hnm hK.1 hc
  obtain ⟨r, h1, cell, q1, q2, q3, q4⟩ := (wd_P hW hi he) 0 _ rfl
  have hr : r = (C, T, N) := Option.some.inj (h1.symm.trans hc)
  subst hr
  obtain ⟨hS, hfc, kC, hkC, hkind⟩ := hK.1.1 ci _ hc
  obtain ⟨cf, kf, fi, f, hf, hsl⟩ := hS k hk
  have hlay := hts _ (hin _ (u_in_lay hk))
  unfold u_lay at hlay
  rw [if_neg (by rw [hfin]; decide)] at hlay
  have hst := (u_facts hfc hkC (u_lays hts hin hk) hf).1
  have h6 := u_store hfc hkC hkind hlay hf (hty k hk) hn hfit
  refine va_WputK hexec hb (f := f) hown (va_Nw.use rfl (hK.nw hlink rfl)) (hsame _ hf) hst (by rw [q2]; exact h6) q1 q3 (by rw [hsl]; exact k2_hasslot (q4 k hk)) rfl rfl hdg fun H' e1 e2 e3 => ?_
  rw [hsl] at e1 ⊢
  refine kk H' _ (wd_put hW e2 ?_ e3) (hS0.put e2 e3 ⟨Nat.le_add_right b i, Nat.add_lt_add_left hi b⟩)
  rw [hset]
  exact ⟨_, hc, t_OB.to (V := updV (vp_V fs) k (.int x)) ⟨_, e1, q2, q3, t_set q4 hap hk (.int x)⟩ (fun j _ => vp_updV_set hl (.int x) j)⟩
theorem nI_cl {i : Int32} {k n : Nat} (hj : i = nI k) (hk : k < n) (hn : n ≤ 2048) : i.toNatClampNeg = k ∧ vp_in i n := by
  subst hj
  exact ⟨nI_clamp (by omega), vp_in_nI hk (by omega)⟩
theorem w_aldS (hexec : p.tables.exec = Jvm.exec) (hb : c.code = cc) (hK : KK X s) (hW : wd X b g w H) {o : Nat} (ho : isL o) (k : Nat) {j : Int32} (hj : j = nI k) (hk : k < 10) (hdg : decode cc pc = .ok (.aaload, 1))
    (kk : W p l e R s m args below meth c H locs cells slots Q (F0 m (pc + 1) ls (.ref (b + (o + 4 + k)) :: rest))) : W p l e R s m args below meth c H locs cells slots Q (F0 m pc ls (.int j :: .ref (b + (o + 1)) :: rest)) := by
  obtain ⟨e1, e2⟩ := nI_cl hj hk (by omega)
  refine va_aldq hexec hb hK.1 (wd_P hW (by unfold isL at ho; omega) (Ent_aS ho)) 0 2 rfl rfl e2 hdg ?_
  rw [e1]; exact kk
theorem w_aldB (hexec : p.tables.exec = Jvm.exec) (hb : c.code = cc) (hK : KK X s) (hW : wd X b g w H) {o : Nat} (ho : isL o) (k : Nat) {j : Int32} (hj : j = nI k) (hk : k < 6) (hdg : decode cc pc = .ok (.aaload, 1))
    (kk : W p l e R s m args below meth c H locs cells slots Q (F0 m (pc + 1) ls (.ref (b + (o + 14 + k)) :: rest))) : W p l e R s m args below meth c H locs cells slots Q (F0 m pc ls (.int j :: .ref (b + (o + 2)) :: rest)) := by
  obtain ⟨e1, e2⟩ := nI_cl hj hk (by omega)
  refine va_aldq hexec hb hK.1 (wd_P hW (by unfold isL at ho; omega) (Ent_aB ho)) 0 3 rfl rfl e2 hdg ?_
  rw [e1]; exact kk
theorem w_aldP (hexec : p.tables.exec = Jvm.exec) (hb : c.code = cc) (hK : KK X s) (hW : wd X b g w H) {o : Nat} (ho : isL o) (k : Nat) {j : Int32} (hj : j = nI k) (hk : k < 50) (hdg : decode cc pc = .ok (.aaload, 1))
    (kk : W p l e R s m args below meth c H locs cells slots Q (F0 m (pc + 1) ls (.ref (b + (o + 20 + k)) :: rest))) : W p l e R s m args below meth c H locs cells slots Q (F0 m pc ls (.int j :: .ref (b + (o + 3)) :: rest)) := by
  obtain ⟨e1, e2⟩ := nI_cl hj hk (by omega)
  refine va_aldq hexec hb hK.1 (wd_P hW (by unfold isL at ho; omega) (Ent_aP ho)) 0 4 rfl rfl e2 hdg ?_
  rw [e1]; exact kk
end WR
theorem setS {X : CX} {b : Nat} {g : S2} {w : Int64} {i k : Nat} {x : Int32} (h : isS i) (hk : k < 3) : Ent X b (u2 g i k x) w i = .inr (3, ([.int (g i 0), .int (g i 1), .int (g i 2)] : List Value).set k (.int x)) := by
  rw [Ent_S h]
  rcases (by omega : k = 0 ∨ k = 1 ∨ k = 2) with rfl | rfl | rfl <;> simp [u2, upd]
theorem setB {X : CX} {b : Nat} {g : S2} {w : Int64} {i k : Nat} {x : Int32} (h : isB i) (hk : k < 7) : Ent X b (u2 g i k x) w i = .inr (0, ([.int (g i 0), .int (g i 1), .int (g i 2), .int (g i 3), .int (g i 4), .int (g i 5), .int (g i 6)] : List Value).set k (.int x)) := by
  rw [Ent_B h]
  rcases (by omega : k = 0 ∨ k = 1 ∨ k = 2 ∨ k = 3 ∨ k = 4 ∨ k = 5 ∨ k = 6) with rfl | rfl | rfl | rfl | rfl | rfl | rfl <;> simp [u2, upd]
theorem setP {X : CX} {b : Nat} {g : S2} {w : Int64} {i k : Nat} {x : Int32} (h : isP i) (hk : k < 8) : Ent X b (u2 g i k x) w i = .inr (2, ([.int (g i 0), .int (g i 1), .int (g i 2), .int (g i 3), .int (g i 4), .int (g i 5), .int (g i 6), .int (g i 7)] : List Value).set k (.int x)) := by
  rw [Ent_P h]
  rcases (by omega : k = 0 ∨ k = 1 ∨ k = 2 ∨ k = 3 ∨ k = 4 ∨ k = 5 ∨ k = 6 ∨ k = 7) with rfl | rfl | rfl | rfl | rfl | rfl | rfl | rfl <;> simp [u2, upd]
theorem setL {X : CX} {b : Nat} {g : S2} {w : Int64} {i k : Nat} {x : Int32} (h : isL i) (h3 : 3 ≤ k) (hk : k < 7) : Ent X b (u2 g i k x) w i = .inr (1, ([.ref (b + (i + 1)), .ref (b + (i + 2)), .ref (b + (i + 3)), .int (g i 3), .int (g i 4), .int (g i 5), .int (g i 6)] : List Value).set k (.int x)) := by
  rw [Ent_L h]
  rcases (by omega : k = 3 ∨ k = 4 ∨ k = 5 ∨ k = 6) with rfl | rfl | rfl | rfl <;> simp [u2, upd]
theorem nz01 {x : Int32} (h : x = 0 ∨ x = 1) : narrow .boolean (.int x) = .int x ∧ fits .boolean (.int x) = true := by
  rcases h with rfl | rfl <;> exact ⟨by decide, by decide⟩
end
section
/-! rows of calls over the world, loops over the world, small facts -/
theorem ltP {i : Nat} (h : isP i) : i < 141 := by unfold isP at h; omega
theorem ltB {i : Nat} (h : isB i) : i < 141 := by unfold isB at h; omega
theorem ltS {i : Nat} (h : isS i) : i < 141 := by unfold isS at h; omega
theorem ltL {i : Nat} (h : isL i) : i < 141 := by unfold isL at h; omega
theorem isP_of {o p : Nat} (ho : isL o) (hp : p < 50) : isP (o + 20 + p) := by unfold isL at ho; unfold isP; omega
theorem isB_of {o p : Nat} (ho : isL o) (hp : p < 6) : isB (o + 14 + p) := by unfold isL at ho; unfold isB; omega
theorem isS_of {o p : Nat} (ho : isL o) (hp : p < 10) : isS (o + 4 + p) := by unfold isL at ho; unfold isS; omega
theorem ite0 {P : Prop} [Decidable P] : (if P then (1 : Int32) else 0) = 0 ↔ ¬ P := by
  by_cases h : P
  · rw [if_pos h]; exact ⟨fun q => absurd q (by decide), fun q => absurd h q⟩
  · rw [if_neg h]; exact ⟨fun _ => h, fun _ => rfl⟩
theorem ite1 {P : Prop} [Decidable P] : ¬ (if P then (1 : Int32) else 0) = 0 ↔ P := by
  rw [ite0]; exact Decidable.not_not
theorem ite01 {P : Prop} [Decidable P] : (if P then (1 : Int32) else 0) = 0 ∨ (if P then (1 : Int32) else 0) = 1 := by
  by_cases h : P
  · rw [if_pos h]; exact Or.inr rfl
  · rw [if_neg h]; exact Or.inl rfl
theorem br_le {x y : Int32} {a b : Nat} (hx : x = nI a) (hy : y = nI b) (ha : a < 2 ^ 31) (hb : b < 2 ^ 31) (h : x ≤ y) : a ≤ b := by
  subst hx; subst hy; exact (nI_leI ha hb).mp h
theorem br_nle {x y : Int32} {a b : Nat} (hx : x = nI a) (hy : y = nI b) (ha : a < 2 ^ 31) (hb : b < 2 ^ 31) (h : ¬ x ≤ y) : b < a := by
  subst hx; subst hy; exact Nat.not_le.mp fun q => h ((nI_leI ha hb).mpr q)
theorem br_lt {x y : Int32} {a b : Nat} (hx : x = nI a) (hy : y = nI b) (ha : a < 2 ^ 31) (hb : b < 2 ^ 31) (h : x < y) : a < b := by
  subst hx; subst hy; exact (nI_ltI ha hb).mp h
theorem br_nlt {x y : Int32} {a b : Nat} (hx : x = nI a) (hy : y = nI b) (ha : a < 2 ^ 31) (hb : b < 2 ^ 31) (h : ¬ x < y) : b ≤ a := by
  subst hx; subst hy; exact Nat.not_lt.mp fun q => h ((nI_ltI ha hb).mpr q)
section CR
variable {p : Program} {l : Launch} {e : Env} {R : Room} {s : State} {m : MethodId} {args : Array Value} {below : List Frame} {meth : Method} {c : Code} {H : Heap} {locs : List Loc} {cells slots : Nat} {Q : State → Prop}
variable {cc : ByteArray} {pc : Nat} {ls : Array Slot} {rest st0 : List Value} {X : CX} {b : Nat} {g : S2} {w : Int64} {H0 : Heap}
variable {own C : String} {y : MethodName} {cy : ByteArray} {maxL nL n index mc ms : Nat} {ret : Option FieldType} {rm : Room} {Qc : Array Value → State → Outcome → State → Prop} {As : List Value} {a : Array Value}
theorem c_V (hF : CallFix p m c cc nL s args lw_good own) {i : Nat} (hM : Met l y (wsg y cy maxL ret) rm (Pre X b g w (.ref (b + i) :: As)) Qc mc ms (AA b)) (hK : KK X s) (hW : wd X b g w H) (hi : i < 141) {fs : List Value} {T : u_T} {N ci : Nat} (he : Ent X b g w i = .inr (ci, fs)) (hc : vwCl[ci]? = some (C, T, N))
    (h1 : Cond.methodLink own index y ∈ lw_good) (h2 : Cond.instanceMethod y ∈ lw_good) (h3 : Cond.selects C y y ∈ lw_good) (h4 : Cond.initialized C ∈ lw_good) (h5 : Cond.code y cy maxL ret ∈ lw_good)
    (hd : y.cls = C ∧ y.cls ≠ "java/lang/invoke/MethodHandle" ∧ y.cls ≠ "java/lang/invoke/VarHandle" ∧ (parseMethodDescriptor y.desc).map (fun d => d.parameters.length) = some n) (hR : rm.frames + 1 ≤ R.frames ∧ 8 + (maxL + 11) + rm.locals ≤ R.locals ∧ rm.cells = mc ∧ rm.slots = ms)
    (hst : st0 = As.reverse ++ .ref (b + i) :: rest) (hdg : decode cc pc = .ok (.invokevirtual index, 3)) (hn : As.length = n) (hsz : ls.size = nL) (hre : (rest.map fun v => v.category).sum ≤ 8) (hf : cells + mc ≤ R.cells ∧ slots + ms ≤ R.slots) :
    va_Run p l e R s m args below meth c H locs cells slots mc ms (F0 m pc ls st0) rest (Qc (Value.ref (b + i) :: As).toArray) (AA b) :=
  va_runV hF hM ⟨callB_of n hF.2.2.2.2 (good_in h5) rfl hR.2.2.1 hR.2.2.2 (by rw [hd.1]; exact hF.2.2.2.2 _ h4) (hF.2.2.2.2 _ h1) hd.2 ⟨hR.1, hR.2.1⟩, hF.2.2.2.2 _ h2, by have h := hF.2.2.2.2 _ h3; exact h⟩ ⟨Pre_blind, va_recv (q0 := 0) hK.1 (wd_P hW hi he) hc rfl, fun U hU hWm => ⟨rfl, by rw [hU]; exact hW, hK.warm hWm⟩⟩ rfl hn hsz hst (lv_room hre) hdg hf
theorem c_VN (hF : CallFix p m c cc nL s args lw_good own) {host : String} {i : Nat} (hM : Met l y (wsg y cy maxL ret) rm (Pre X b g w (.ref (b + i) :: As)) Qc mc ms (AA b)) (hK : KK X s) (hW : wd X b g w H) (hi : i < 141) {fs : List Value} {T : u_T} {N ci : Nat} (he : Ent X b g w i = .inr (ci, fs)) (hc : vwCl[ci]? = some (C, T, N))
    (h1 : Cond.methodLinkNest own index y host ∈ lw_tbl) (h2 : Cond.instanceMethod y ∈ lw_good) (h3 : Cond.selects C y y ∈ lw_good) (h4 : Cond.initialized C ∈ lw_good) (h5 : Cond.code y cy maxL ret ∈ lw_good)
    (hd : y.cls = C ∧ y.cls ≠ "java/lang/invoke/MethodHandle" ∧ y.cls ≠ "java/lang/invoke/VarHandle" ∧ (parseMethodDescriptor y.desc).map (fun d => d.parameters.length) = some n) (hR : rm.frames + 1 ≤ R.frames ∧ 8 + (maxL + 11) + rm.locals ≤ R.locals ∧ rm.cells = mc ∧ rm.slots = ms)
    (hst : st0 = As.reverse ++ .ref (b + i) :: rest) (hdg : decode cc pc = .ok (.invokevirtual index, 3)) (hn : As.length = n) (hsz : ls.size = nL) (hre : (rest.map fun v => v.category).sum ≤ 8) (hf : cells + mc ≤ R.cells ∧ slots + ms ≤ R.slots) :
    va_Run p l e R s m args below meth c H locs cells slots mc ms (F0 m pc ls st0) rest (Qc (Value.ref (b + i) :: As).toArray) (AA b) :=
  va_runVN hF hM ⟨va_cnB n hF.2.2.2.2 (good_in h5) rfl hR.2.2.1 hR.2.2.2 (hK.nw h1 rfl) (by rw [hd.1]; exact hF.2.2.2.2 _ h4) hd.2 ⟨hR.1, hR.2.1⟩, hF.2.2.2.2 _ h2, by have h := hF.2.2.2.2 _ h3; exact h⟩ ⟨Pre_blind, va_recv (q0 := 0) hK.1 (wd_P hW hi he) hc rfl, fun U hU hWm => ⟨rfl, by rw [hU]; exact hW, hK.warm hWm⟩⟩ rfl hn hsz hst (lv_room hre) hdg hf
theorem c_S (hF : CallFix p m c cc nL s args lw_good own) (hM : Met l y (wsg y cy maxL ret) rm (Pre X b g w As) Qc mc ms (AA b)) (hK : KK X s) (hW : wd X b g w H)
    (h1 : Cond.methodLink own index y ∈ lw_good) (h2 : Cond.static y ∈ lw_good) (h4 : Cond.initialized C ∈ lw_good) (h5 : Cond.code y cy maxL ret ∈ lw_good)
    (hd : y.cls = C ∧ y.cls ≠ "java/lang/invoke/MethodHandle" ∧ y.cls ≠ "java/lang/invoke/VarHandle" ∧ (parseMethodDescriptor y.desc).map (fun d => d.parameters.length) = some n) (hR : rm.frames + 1 ≤ R.frames ∧ 8 + (maxL + 11) + rm.locals ≤ R.locals ∧ rm.cells = mc ∧ rm.slots = ms)
    (hst : st0 = As.reverse ++ rest) (hdg : decode cc pc = .ok (.invokestatic index, 3)) (hn : As.length = n) (hsz : ls.size = nL) (hre : (rest.map fun v => v.category).sum ≤ 8) (hf : cells + mc ≤ R.cells ∧ slots + ms ≤ R.slots) :
    va_Run p l e R s m args below meth c H locs cells slots mc ms (F0 m pc ls st0) rest (Qc As.toArray) (AA b) :=
  va_runS hF hM ⟨callB_of n hF.2.2.2.2 (good_in h5) rfl hR.2.2.1 hR.2.2.2 (by rw [hd.1]; exact hF.2.2.2.2 _ h4) (hF.2.2.2.2 _ h1) hd.2 ⟨hR.1, hR.2.1⟩, hF.2.2.2.2 _ h2⟩ ⟨Pre_blind, fun U hU hWm => ⟨rfl, by rw [hU]; exact hW, hK.warm hWm⟩⟩ rfl hn hsz hst (lv_room hre) hdg hf
theorem k_i {post : Int32 → S2 → Prop} (hr : va_Run p l e R s m args below meth c H locs cells slots mc ms (F0 m pc ls st0) rest (Qi X b w post a) (AA b)) (hS : va_S (AA b) H0 H locs)
    (kk : ∀ (r : Int32) (g1 : S2) (H1 : Heap) (locs1 : List Loc), post r g1 → wd X b g1 w H1 → va_S (AA b) H0 H1 locs1 → W p l e R s m args below meth c H1 locs1 (cells + mc) (slots + ms) Q (F0 m (pc + 3) ls (.int r :: rest))) : W p l e R s m args below meth c H locs cells slots Q (F0 m pc ls st0) :=
  va_calli hr hS (fun _ _ h => h) (fun _ h => h) (fun r u _ H1 locs1 ht _ hp hb _ _ hS1 => kk r u H1 locs1 hp (ht ▸ hb) hS1)
theorem k_l {post : Int64 → S2 → Prop} (hr : va_Run p l e R s m args below meth c H locs cells slots mc ms (F0 m pc ls st0) rest (Ql X b w post a) (AA b)) (hS : va_S (AA b) H0 H locs)
    (kk : ∀ (r : Int64) (g1 : S2) (H1 : Heap) (locs1 : List Loc), post r g1 → wd X b g1 w H1 → va_S (AA b) H0 H1 locs1 → W p l e R s m args below meth c H1 locs1 (cells + mc) (slots + ms) Q (F0 m (pc + 3) ls (.long r :: rest))) : W p l e R s m args below meth c H locs cells slots Q (F0 m pc ls st0) :=
  va_calll hr hS (fun _ _ h => h) (fun _ h => h) (fun r u _ H1 locs1 ht _ hp hb _ _ hS1 => kk r u H1 locs1 hp (ht ▸ hb) hS1)
theorem k_v {post : S2 → Prop} (hr : va_Run p l e R s m args below meth c H locs cells slots mc ms (F0 m pc ls st0) rest (Qv X b w post a) (AA b)) (hS : va_S (AA b) H0 H locs)
    (kk : ∀ (g1 : S2) (H1 : Heap) (locs1 : List Loc), post g1 → wd X b g1 w H1 → va_S (AA b) H0 H1 locs1 → W p l e R s m args below meth c H1 locs1 (cells + mc) (slots + ms) Q (F0 m (pc + 3) ls rest)) : W p l e R s m args below meth c H locs cells slots Q (F0 m pc ls st0) :=
  va_callv hr hS (fun _ _ h => h) (fun _ h => h) (fun u _ H1 locs1 ht _ hp hb _ _ hS1 => kk u H1 locs1 hp (ht ▸ hb) hS1)
theorem k_r {post : Nat → S2 → Prop} (hr : va_Run p l e R s m args below meth c H locs cells slots mc ms (F0 m pc ls st0) rest (Qr X b w post a) (AA b)) (hS : va_S (AA b) H0 H locs)
    (kk : ∀ (r : Nat) (g1 : S2) (H1 : Heap) (locs1 : List Loc), post r g1 → wd X b g1 w H1 → va_S (AA b) H0 H1 locs1 → W p l e R s m args below meth c H1 locs1 (cells + mc) (slots + ms) Q (F0 m (pc + 3) ls (.ref r :: rest))) : W p l e R s m args below meth c H locs cells slots Q (F0 m pc ls st0) :=
  va_callr hr hS (fun _ _ h => h) (fun _ h => h) (fun u ra _ H1 locs1 ht _ _ hb _ _ hS1 => kk ra u H1 locs1 hb.1 (ht ▸ hb.2) hS1)
/-- a loop with a number i from i0 on, at most n, and more state x -/
theorem w_loop {σ : Type} (n : Nat) (I : Nat → σ → Prop) (G : Nat → σ → S2) (L : Nat → σ → List (Nat × Value)) (i0 : Nat) (x0 : σ) (hi : i0 ≤ n) (h0 : I i0 x0) (hW : wd X b (G i0 x0) w H) (hS : va_S (AA b) H0 H locs) (hl : lv_has ls nL (L i0 x0))
    (step : ∀ (i : Nat) (x : σ) (H : Heap) (locs : List Loc) (ls : Array Slot), i ≤ n → I i x → wd X b (G i x) w H → va_S (AA b) H0 H locs → lv_has ls nL (L i x) →
      (i < n → ∀ (x' : σ) (H' : Heap) (locs' : List Loc) (ls' : Array Slot), I (i + 1) x' → wd X b (G (i + 1) x') w H' → va_S (AA b) H0 H' locs' → lv_has ls' nL (L (i + 1) x') → W p l e R s m args below meth c H' locs' cells slots Q (F0 m pc ls' [])) →
      W p l e R s m args below meth c H locs cells slots Q (F0 m pc ls [])) : W p l e R s m args below meth c H locs cells slots Q (F0 m pc ls []) := by
  suffices K : ∀ (k i : Nat) (x : σ) (H : Heap) (locs : List Loc) (ls : Array Slot), n - i < k → i ≤ n → I i x → wd X b (G i x) w H → va_S (AA b) H0 H locs → lv_has ls nL (L i x) → W p l e R s m args below meth c H locs cells slots Q (F0 m pc ls []) from K (n - i0 + 1) i0 x0 H locs ls (by omega) hi h0 hW hS hl
  intro k
  induction k with
  | zero => intro i x H locs ls hk; omega
  | succ k ih =>
    intro i x H locs ls hk hi hI hW hS hl
    exact step i x H locs ls hi hI hW hS hl (fun hlt x' H' locs' ls' a1 a2 a3 a4 => ih (i + 1) x' H' locs' ls' (by omega) (by omega) a1 a2 a3 a4)
end CR
/-! how many parameters a method has, its class -/
theorem hX0_init : yX0_init.cls = RX0 ∧ yX0_init.cls ≠ "java/lang/invoke/MethodHandle" ∧ yX0_init.cls ≠ "java/lang/invoke/VarHandle" ∧ (parseMethodDescriptor yX0_init.desc).map (fun d => d.parameters.length) = some 1 := by decide +kernel
theorem hX0_copyFrom : yX0_copyFrom.cls = RX0 ∧ yX0_copyFrom.cls ≠ "java/lang/invoke/MethodHandle" ∧ yX0_copyFrom.cls ≠ "java/lang/invoke/VarHandle" ∧ (parseMethodDescriptor yX0_copyFrom.desc).map (fun d => d.parameters.length) = some 1 := by decide +kernel
theorem hX0_isBunchedWith : yX0_isBunchedWith.cls = RX0 ∧ yX0_isBunchedWith.cls ≠ "java/lang/invoke/MethodHandle" ∧ yX0_isBunchedWith.cls ≠ "java/lang/invoke/VarHandle" ∧ (parseMethodDescriptor yX0_isBunchedWith.desc).map (fun d => d.parameters.length) = some 1 := by decide +kernel
theorem hX0_tell : yX0_tell.cls = RX0 ∧ yX0_tell.cls ≠ "java/lang/invoke/MethodHandle" ∧ yX0_tell.cls ≠ "java/lang/invoke/VarHandle" ∧ (parseMethodDescriptor yX0_tell.desc).map (fun d => d.parameters.length) = some 1 := by decide +kernel
theorem hX1_init : yX1_init.cls = RX1 ∧ yX1_init.cls ≠ "java/lang/invoke/MethodHandle" ∧ yX1_init.cls ≠ "java/lang/invoke/VarHandle" ∧ (parseMethodDescriptor yX1_init.desc).map (fun d => d.parameters.length) = some 0 := by decide +kernel
theorem hX1_copyFrom : yX1_copyFrom.cls = RX1 ∧ yX1_copyFrom.cls ≠ "java/lang/invoke/MethodHandle" ∧ yX1_copyFrom.cls ≠ "java/lang/invoke/VarHandle" ∧ (parseMethodDescriptor yX1_copyFrom.desc).map (fun d => d.parameters.length) = some 1 := by decide +kernel
theorem hX1_stopAt : yX1_stopAt.cls = RX1 ∧ yX1_stopAt.cls ≠ "java/lang/invoke/MethodHandle" ∧ yX1_stopAt.cls ≠ "java/lang/invoke/VarHandle" ∧ (parseMethodDescriptor yX1_stopAt.desc).map (fun d => d.parameters.length) = some 1 := by decide +kernel
theorem hX1_addBus : yX1_addBus.cls = RX1 ∧ yX1_addBus.cls ≠ "java/lang/invoke/MethodHandle" ∧ yX1_addBus.cls ≠ "java/lang/invoke/VarHandle" ∧ (parseMethodDescriptor yX1_addBus.desc).map (fun d => d.parameters.length) = some 2 := by decide +kernel
theorem hX1_addPassenger : yX1_addPassenger.cls = RX1 ∧ yX1_addPassenger.cls ≠ "java/lang/invoke/MethodHandle" ∧ yX1_addPassenger.cls ≠ "java/lang/invoke/VarHandle" ∧ (parseMethodDescriptor yX1_addPassenger.desc).map (fun d => d.parameters.length) = some 2 := by decide +kernel
theorem hX1_fareBetween : yX1_fareBetween.cls = RX1 ∧ yX1_fareBetween.cls ≠ "java/lang/invoke/MethodHandle" ∧ yX1_fareBetween.cls ≠ "java/lang/invoke/VarHandle" ∧ (parseMethodDescriptor yX1_fareBetween.desc).map (fun d => d.parameters.length) = some 2 := by decide +kernel
theorem hX1_passMinutes : yX1_passMinutes.cls = RX1 ∧ yX1_passMinutes.cls ≠ "java/lang/invoke/MethodHandle" ∧ yX1_passMinutes.cls ≠ "java/lang/invoke/VarHandle" ∧ (parseMethodDescriptor yX1_passMinutes.desc).map (fun d => d.parameters.length) = some 1 := by decide +kernel
theorem hX1_passMinute : yX1_passMinute.cls = RX1 ∧ yX1_passMinute.cls ≠ "java/lang/invoke/MethodHandle" ∧ yX1_passMinute.cls ≠ "java/lang/invoke/VarHandle" ∧ (parseMethodDescriptor yX1_passMinute.desc).map (fun d => d.parameters.length) = some 0 := by decide +kernel
theorem hX1_driveOn : yX1_driveOn.cls = RX1 ∧ yX1_driveOn.cls ≠ "java/lang/invoke/MethodHandle" ∧ yX1_driveOn.cls ≠ "java/lang/invoke/VarHandle" ∧ (parseMethodDescriptor yX1_driveOn.desc).map (fun d => d.parameters.length) = some 1 := by decide +kernel
theorem hX1_standOn : yX1_standOn.cls = RX1 ∧ yX1_standOn.cls ≠ "java/lang/invoke/MethodHandle" ∧ yX1_standOn.cls ≠ "java/lang/invoke/VarHandle" ∧ (parseMethodDescriptor yX1_standOn.desc).map (fun d => d.parameters.length) = some 1 := by decide +kernel
theorem hX1_letOff : yX1_letOff.cls = RX1 ∧ yX1_letOff.cls ≠ "java/lang/invoke/MethodHandle" ∧ yX1_letOff.cls ≠ "java/lang/invoke/VarHandle" ∧ (parseMethodDescriptor yX1_letOff.desc).map (fun d => d.parameters.length) = some 1 := by decide +kernel
theorem hX1_letOn : yX1_letOn.cls = RX1 ∧ yX1_letOn.cls ≠ "java/lang/invoke/MethodHandle" ∧ yX1_letOn.cls ≠ "java/lang/invoke/VarHandle" ∧ (parseMethodDescriptor yX1_letOn.desc).map (fun d => d.parameters.length) = some 1 := by decide +kernel
theorem hX1_tellStop : yX1_tellStop.cls = RX1 ∧ yX1_tellStop.cls ≠ "java/lang/invoke/MethodHandle" ∧ yX1_tellStop.cls ≠ "java/lang/invoke/VarHandle" ∧ (parseMethodDescriptor yX1_tellStop.desc).map (fun d => d.parameters.length) = some 2 := by decide +kernel
theorem hX1_tellCount : yX1_tellCount.cls = RX1 ∧ yX1_tellCount.cls ≠ "java/lang/invoke/MethodHandle" ∧ yX1_tellCount.cls ≠ "java/lang/invoke/VarHandle" ∧ (parseMethodDescriptor yX1_tellCount.desc).map (fun d => d.parameters.length) = some 1 := by decide +kernel
theorem hX1_waitingAt : yX1_waitingAt.cls = RX1 ∧ yX1_waitingAt.cls ≠ "java/lang/invoke/MethodHandle" ∧ yX1_waitingAt.cls ≠ "java/lang/invoke/VarHandle" ∧ (parseMethodDescriptor yX1_waitingAt.desc).map (fun d => d.parameters.length) = some 1 := by decide +kernel
theorem hX1_standingAt : yX1_standingAt.cls = RX1 ∧ yX1_standingAt.cls ≠ "java/lang/invoke/MethodHandle" ∧ yX1_standingAt.cls ≠ "java/lang/invoke/VarHandle" ∧ (parseMethodDescriptor yX1_standingAt.desc).map (fun d => d.parameters.length) = some 1 := by decide +kernel
theorem hX1_passengersIn : yX1_passengersIn.cls = RX1 ∧ yX1_passengersIn.cls ≠ "java/lang/invoke/MethodHandle" ∧ yX1_passengersIn.cls ≠ "java/lang/invoke/VarHandle" ∧ (parseMethodDescriptor yX1_passengersIn.desc).map (fun d => d.parameters.length) = some 1 := by decide +kernel
theorem hX1_allPaid : yX1_allPaid.cls = RX1 ∧ yX1_allPaid.cls ≠ "java/lang/invoke/MethodHandle" ∧ yX1_allPaid.cls ≠ "java/lang/invoke/VarHandle" ∧ (parseMethodDescriptor yX1_allPaid.desc).map (fun d => d.parameters.length) = some 0 := by decide +kernel
theorem hX1_allWaited : yX1_allWaited.cls = RX1 ∧ yX1_allWaited.cls ≠ "java/lang/invoke/MethodHandle" ∧ yX1_allWaited.cls ≠ "java/lang/invoke/VarHandle" ∧ (parseMethodDescriptor yX1_allWaited.desc).map (fun d => d.parameters.length) = some 0 := by decide +kernel
theorem hX1_bunchedPairs : yX1_bunchedPairs.cls = RX1 ∧ yX1_bunchedPairs.cls ≠ "java/lang/invoke/MethodHandle" ∧ yX1_bunchedPairs.cls ≠ "java/lang/invoke/VarHandle" ∧ (parseMethodDescriptor yX1_bunchedPairs.desc).map (fun d => d.parameters.length) = some 0 := by decide +kernel
theorem hX2_init : yX2_init.cls = RX2 ∧ yX2_init.cls ≠ "java/lang/invoke/MethodHandle" ∧ yX2_init.cls ≠ "java/lang/invoke/VarHandle" ∧ (parseMethodDescriptor yX2_init.desc).map (fun d => d.parameters.length) = some 0 := by decide +kernel
theorem hX2_copyFrom : yX2_copyFrom.cls = RX2 ∧ yX2_copyFrom.cls ≠ "java/lang/invoke/MethodHandle" ∧ yX2_copyFrom.cls ≠ "java/lang/invoke/VarHandle" ∧ (parseMethodDescriptor yX2_copyFrom.desc).map (fun d => d.parameters.length) = some 1 := by decide +kernel
theorem hX2_waitsAt : yX2_waitsAt.cls = RX2 ∧ yX2_waitsAt.cls ≠ "java/lang/invoke/MethodHandle" ∧ yX2_waitsAt.cls ≠ "java/lang/invoke/VarHandle" ∧ (parseMethodDescriptor yX2_waitsAt.desc).map (fun d => d.parameters.length) = some 1 := by decide +kernel
theorem hX2_leavesAt : yX2_leavesAt.cls = RX2 ∧ yX2_leavesAt.cls ≠ "java/lang/invoke/MethodHandle" ∧ yX2_leavesAt.cls ≠ "java/lang/invoke/VarHandle" ∧ (parseMethodDescriptor yX2_leavesAt.desc).map (fun d => d.parameters.length) = some 2 := by decide +kernel
theorem hX2_waitAgain : yX2_waitAgain.cls = RX2 ∧ yX2_waitAgain.cls ≠ "java/lang/invoke/MethodHandle" ∧ yX2_waitAgain.cls ≠ "java/lang/invoke/VarHandle" ∧ (parseMethodDescriptor yX2_waitAgain.desc).map (fun d => d.parameters.length) = some 2 := by decide +kernel
theorem hX2_getOn : yX2_getOn.cls = RX2 ∧ yX2_getOn.cls ≠ "java/lang/invoke/MethodHandle" ∧ yX2_getOn.cls ≠ "java/lang/invoke/VarHandle" ∧ (parseMethodDescriptor yX2_getOn.desc).map (fun d => d.parameters.length) = some 2 := by decide +kernel
theorem hX2_getOff : yX2_getOff.cls = RX2 ∧ yX2_getOff.cls ≠ "java/lang/invoke/MethodHandle" ∧ yX2_getOff.cls ≠ "java/lang/invoke/VarHandle" ∧ (parseMethodDescriptor yX2_getOff.desc).map (fun d => d.parameters.length) = some 1 := by decide +kernel
theorem hX2_tell : yX2_tell.cls = RX2 ∧ yX2_tell.cls ≠ "java/lang/invoke/MethodHandle" ∧ yX2_tell.cls ≠ "java/lang/invoke/VarHandle" ∧ (parseMethodDescriptor yX2_tell.desc).map (fun d => d.parameters.length) = some 1 := by decide +kernel
theorem hX3_init : yX3_init.cls = RX3 ∧ yX3_init.cls ≠ "java/lang/invoke/MethodHandle" ∧ yX3_init.cls ≠ "java/lang/invoke/VarHandle" ∧ (parseMethodDescriptor yX3_init.desc).map (fun d => d.parameters.length) = some 1 := by decide +kernel
theorem hX3_copyFrom : yX3_copyFrom.cls = RX3 ∧ yX3_copyFrom.cls ≠ "java/lang/invoke/MethodHandle" ∧ yX3_copyFrom.cls ≠ "java/lang/invoke/VarHandle" ∧ (parseMethodDescriptor yX3_copyFrom.desc).map (fun d => d.parameters.length) = some 1 := by decide +kernel
theorem hX3_letsLeave : yX3_letsLeave.cls = RX3 ∧ yX3_letsLeave.cls ≠ "java/lang/invoke/MethodHandle" ∧ yX3_letsLeave.cls ≠ "java/lang/invoke/VarHandle" ∧ (parseMethodDescriptor yX3_letsLeave.desc).map (fun d => d.parameters.length) = some 2 := by decide +kernel
theorem hX4_init : yX4_init.cls = RX4 ∧ yX4_init.cls ≠ "java/lang/invoke/MethodHandle" ∧ yX4_init.cls ≠ "java/lang/invoke/VarHandle" ∧ (parseMethodDescriptor yX4_init.desc).map (fun d => d.parameters.length) = some 0 := by decide +kernel
theorem hX4_set : yX4_set.cls = RX4 ∧ yX4_set.cls ≠ "java/lang/invoke/MethodHandle" ∧ yX4_set.cls ≠ "java/lang/invoke/VarHandle" ∧ (parseMethodDescriptor yX4_set.desc).map (fun d => d.parameters.length) = some 3 := by decide +kernel
theorem hX4_hold : yX4_hold.cls = RX4 ∧ yX4_hold.cls ≠ "java/lang/invoke/MethodHandle" ∧ yX4_hold.cls ≠ "java/lang/invoke/VarHandle" ∧ (parseMethodDescriptor yX4_hold.desc).map (fun d => d.parameters.length) = some 1 := by decide +kernel
theorem hX4_start : yX4_start.cls = RX4 ∧ yX4_start.cls ≠ "java/lang/invoke/MethodHandle" ∧ yX4_start.cls ≠ "java/lang/invoke/VarHandle" ∧ (parseMethodDescriptor yX4_start.desc).map (fun d => d.parameters.length) = some 2 := by decide +kernel
theorem hX4_queue : yX4_queue.cls = RX4 ∧ yX4_queue.cls ≠ "java/lang/invoke/MethodHandle" ∧ yX4_queue.cls ≠ "java/lang/invoke/VarHandle" ∧ (parseMethodDescriptor yX4_queue.desc).map (fun d => d.parameters.length) = some 2 := by decide +kernel
theorem hX4_change : yX4_change.cls = RX4 ∧ yX4_change.cls ≠ "java/lang/invoke/MethodHandle" ∧ yX4_change.cls ≠ "java/lang/invoke/VarHandle" ∧ (parseMethodDescriptor yX4_change.desc).map (fun d => d.parameters.length) = some 2 := by decide +kernel
theorem hX4_fare : yX4_fare.cls = RX4 ∧ yX4_fare.cls ≠ "java/lang/invoke/MethodHandle" ∧ yX4_fare.cls ≠ "java/lang/invoke/VarHandle" ∧ (parseMethodDescriptor yX4_fare.desc).map (fun d => d.parameters.length) = some 2 := by decide +kernel
theorem hX4_bus : yX4_bus.cls = RX4 ∧ yX4_bus.cls ≠ "java/lang/invoke/MethodHandle" ∧ yX4_bus.cls ≠ "java/lang/invoke/VarHandle" ∧ (parseMethodDescriptor yX4_bus.desc).map (fun d => d.parameters.length) = some 2 := by decide +kernel
theorem hX4_passenger : yX4_passenger.cls = RX4 ∧ yX4_passenger.cls ≠ "java/lang/invoke/MethodHandle" ∧ yX4_passenger.cls ≠ "java/lang/invoke/VarHandle" ∧ (parseMethodDescriptor yX4_passenger.desc).map (fun d => d.parameters.length) = some 2 := by decide +kernel
theorem hX4_stop : yX4_stop.cls = RX4 ∧ yX4_stop.cls ≠ "java/lang/invoke/MethodHandle" ∧ yX4_stop.cls ≠ "java/lang/invoke/VarHandle" ∧ (parseMethodDescriptor yX4_stop.desc).map (fun d => d.parameters.length) = some 2 := by decide +kernel
theorem hX4_count : yX4_count.cls = RX4 ∧ yX4_count.cls ≠ "java/lang/invoke/MethodHandle" ∧ yX4_count.cls ≠ "java/lang/invoke/VarHandle" ∧ (parseMethodDescriptor yX4_count.desc).map (fun d => d.parameters.length) = some 1 := by decide +kernel
theorem hX4_go : yX4_go.cls = RX4 ∧ yX4_go.cls ≠ "java/lang/invoke/MethodHandle" ∧ yX4_go.cls ≠ "java/lang/invoke/VarHandle" ∧ (parseMethodDescriptor yX4_go.desc).map (fun d => d.parameters.length) = some 1 := by decide +kernel
theorem hX4_arrives : yX4_arrives.cls = RX4 ∧ yX4_arrives.cls ≠ "java/lang/invoke/MethodHandle" ∧ yX4_arrives.cls ≠ "java/lang/invoke/VarHandle" ∧ (parseMethodDescriptor yX4_arrives.desc).map (fun d => d.parameters.length) = some 1 := by decide +kernel
theorem hX4_foresee : yX4_foresee.cls = RX4 ∧ yX4_foresee.cls ≠ "java/lang/invoke/MethodHandle" ∧ yX4_foresee.cls ≠ "java/lang/invoke/VarHandle" ∧ (parseMethodDescriptor yX4_foresee.desc).map (fun d => d.parameters.length) = some 2 := by decide +kernel
theorem hX4_advise : yX4_advise.cls = RX4 ∧ yX4_advise.cls ≠ "java/lang/invoke/MethodHandle" ∧ yX4_advise.cls ≠ "java/lang/invoke/VarHandle" ∧ (parseMethodDescriptor yX4_advise.desc).map (fun d => d.parameters.length) = some 1 := by decide +kernel
theorem hX4_digest : yX4_digest.cls = RX4 ∧ yX4_digest.cls ≠ "java/lang/invoke/MethodHandle" ∧ yX4_digest.cls ≠ "java/lang/invoke/VarHandle" ∧ (parseMethodDescriptor yX4_digest.desc).map (fun d => d.parameters.length) = some 0 := by decide +kernel
theorem hX4_isWithin : yX4_isWithin.cls = RX4 ∧ yX4_isWithin.cls ≠ "java/lang/invoke/MethodHandle" ∧ yX4_isWithin.cls ≠ "java/lang/invoke/VarHandle" ∧ (parseMethodDescriptor yX4_isWithin.desc).map (fun d => d.parameters.length) = some 3 := by decide +kernel
theorem hX4_isStop : yX4_isStop.cls = RX4 ∧ yX4_isStop.cls ≠ "java/lang/invoke/MethodHandle" ∧ yX4_isStop.cls ≠ "java/lang/invoke/VarHandle" ∧ (parseMethodDescriptor yX4_isStop.desc).map (fun d => d.parameters.length) = some 1 := by decide +kernel
theorem hX4_isPassenger : yX4_isPassenger.cls = RX4 ∧ yX4_isPassenger.cls ≠ "java/lang/invoke/MethodHandle" ∧ yX4_isPassenger.cls ≠ "java/lang/invoke/VarHandle" ∧ (parseMethodDescriptor yX4_isPassenger.desc).map (fun d => d.parameters.length) = some 1 := by decide +kernel
theorem hL_below : yL_below.cls = RL ∧ yL_below.cls ≠ "java/lang/invoke/MethodHandle" ∧ yL_below.cls ≠ "java/lang/invoke/VarHandle" ∧ (parseMethodDescriptor yL_below.desc).map (fun d => d.parameters.length) = some 2 := by decide +kernel
theorem hL_cell : yL_cell.cls = RL ∧ yL_cell.cls ≠ "java/lang/invoke/MethodHandle" ∧ yL_cell.cls ≠ "java/lang/invoke/VarHandle" ∧ (parseMethodDescriptor yL_cell.desc).map (fun d => d.parameters.length) = some 2 := by decide +kernel
theorem hL_line : yL_line.cls = RL ∧ yL_line.cls ≠ "java/lang/invoke/MethodHandle" ∧ yL_line.cls ≠ "java/lang/invoke/VarHandle" ∧ (parseMethodDescriptor yL_line.desc).map (fun d => d.parameters.length) = some 1 := by decide +kernel
theorem hL_change : yL_change.cls = RL ∧ yL_change.cls ≠ "java/lang/invoke/MethodHandle" ∧ yL_change.cls ≠ "java/lang/invoke/VarHandle" ∧ (parseMethodDescriptor yL_change.desc).map (fun d => d.parameters.length) = some 3 := by decide +kernel
end
section
/-! rows of read-only calls and loops; what the methods of the class answer and do, in words over the store g -/
def QR (r : Int32) : Array Value → State → Outcome → State → Prop := fun _ st o t => o = .returned (some (.int r)) ∧ t.heap = st.heap
def QRL (r : Int64) : Array Value → State → Outcome → State → Prop := fun _ st o t => o = .returned (some (.long r)) ∧ t.heap = st.heap
def QRr (a : Nat) : Array Value → State → Outcome → State → Prop := fun _ st o t => o = .returned (some (.ref a)) ∧ t.heap = st.heap
abbrev NO : Addr → Prop := fun _ => False
section CR2
variable {p : Program} {l : Launch} {e : Env} {R : Room} {s : State} {m : MethodId} {args : Array Value} {below : List Frame} {meth : Method} {c : Code} {H : Heap} {locs : List Loc} {cells slots : Nat} {Q : State → Prop}
variable {cc : ByteArray} {pc : Nat} {ls : Array Slot} {rest st0 : List Value} {X : CX} {b : Nat} {g : S2} {w : Int64} {H0 : Heap}
variable {own C : String} {y : MethodName} {cy : ByteArray} {maxL nL n index mc ms : Nat} {ret : Option FieldType} {rm : Room} {Qc : Array Value → State → Outcome → State → Prop} {As : List Value} {a : Array Value} {fr : Addr → Prop}
theorem c_V0 (hF : CallFix p m c cc nL s args lw_good own) {i : Nat} (hM : Met l y (wsg y cy maxL ret) rm (Pre X b g w (.ref (b + i) :: As)) Qc mc ms fr) (hK : KK X s) (hW : wd X b g w H) (hi : i < 141) {fs : List Value} {T : u_T} {N ci : Nat} (he : Ent X b g w i = .inr (ci, fs)) (hc : vwCl[ci]? = some (C, T, N))
    (h1 : Cond.methodLink own index y ∈ lw_good) (h2 : Cond.instanceMethod y ∈ lw_good) (h3 : Cond.selects C y y ∈ lw_good) (h4 : Cond.initialized C ∈ lw_good) (h5 : Cond.code y cy maxL ret ∈ lw_good)
    (hd : y.cls = C ∧ y.cls ≠ "java/lang/invoke/MethodHandle" ∧ y.cls ≠ "java/lang/invoke/VarHandle" ∧ (parseMethodDescriptor y.desc).map (fun d => d.parameters.length) = some n) (hR : rm.frames + 1 ≤ R.frames ∧ 8 + (maxL + 11) + rm.locals ≤ R.locals ∧ rm.cells = mc ∧ rm.slots = ms)
    (hst : st0 = As.reverse ++ .ref (b + i) :: rest) (hdg : decode cc pc = .ok (.invokevirtual index, 3)) (hn : As.length = n) (hsz : ls.size = nL) (hre : (rest.map fun v => v.category).sum ≤ 8) (hf : cells + mc ≤ R.cells ∧ slots + ms ≤ R.slots) :
    va_Run p l e R s m args below meth c H locs cells slots mc ms (F0 m pc ls st0) rest (Qc (Value.ref (b + i) :: As).toArray) fr :=
  va_runV hF hM ⟨callB_of n hF.2.2.2.2 (good_in h5) rfl hR.2.2.1 hR.2.2.2 (by rw [hd.1]; exact hF.2.2.2.2 _ h4) (hF.2.2.2.2 _ h1) hd.2 ⟨hR.1, hR.2.1⟩, hF.2.2.2.2 _ h2, by have h := hF.2.2.2.2 _ h3; exact h⟩ ⟨Pre_blind, va_recv (q0 := 0) hK.1 (wd_P hW hi he) hc rfl, fun U hU hWm => ⟨rfl, by rw [hU]; exact hW, hK.warm hWm⟩⟩ rfl hn hsz hst (lv_room hre) hdg hf
theorem c_VN0 (hF : CallFix p m c cc nL s args lw_good own) {host : String} {i : Nat} (hM : Met l y (wsg y cy maxL ret) rm (Pre X b g w (.ref (b + i) :: As)) Qc mc ms fr) (hK : KK X s) (hW : wd X b g w H) (hi : i < 141) {fs : List Value} {T : u_T} {N ci : Nat} (he : Ent X b g w i = .inr (ci, fs)) (hc : vwCl[ci]? = some (C, T, N))
    (h1 : Cond.methodLinkNest own index y host ∈ lw_tbl) (h2 : Cond.instanceMethod y ∈ lw_good) (h3 : Cond.selects C y y ∈ lw_good) (h4 : Cond.initialized C ∈ lw_good) (h5 : Cond.code y cy maxL ret ∈ lw_good)
    (hd : y.cls = C ∧ y.cls ≠ "java/lang/invoke/MethodHandle" ∧ y.cls ≠ "java/lang/invoke/VarHandle" ∧ (parseMethodDescriptor y.desc).map (fun d => d.parameters.length) = some n) (hR : rm.frames + 1 ≤ R.frames ∧ 8 + (maxL + 11) + rm.locals ≤ R.locals ∧ rm.cells = mc ∧ rm.slots = ms)
    (hst : st0 = As.reverse ++ .ref (b + i) :: rest) (hdg : decode cc pc = .ok (.invokevirtual index, 3)) (hn : As.length = n) (hsz : ls.size = nL) (hre : (rest.map fun v => v.category).sum ≤ 8) (hf : cells + mc ≤ R.cells ∧ slots + ms ≤ R.slots) :
    va_Run p l e R s m args below meth c H locs cells slots mc ms (F0 m pc ls st0) rest (Qc (Value.ref (b + i) :: As).toArray) fr :=
  va_runVN hF hM ⟨va_cnB n hF.2.2.2.2 (good_in h5) rfl hR.2.2.1 hR.2.2.2 (hK.nw h1 rfl) (by rw [hd.1]; exact hF.2.2.2.2 _ h4) hd.2 ⟨hR.1, hR.2.1⟩, hF.2.2.2.2 _ h2, by have h := hF.2.2.2.2 _ h3; exact h⟩ ⟨Pre_blind, va_recv (q0 := 0) hK.1 (wd_P hW hi he) hc rfl, fun U hU hWm => ⟨rfl, by rw [hU]; exact hW, hK.warm hWm⟩⟩ rfl hn hsz hst (lv_room hre) hdg hf
theorem c_S0 (hF : CallFix p m c cc nL s args lw_good own) (hM : Met l y (wsg y cy maxL ret) rm (Pre X b g w As) Qc mc ms fr) (hK : KK X s) (hW : wd X b g w H)
    (h1 : Cond.methodLink own index y ∈ lw_good) (h2 : Cond.static y ∈ lw_good) (h4 : Cond.initialized C ∈ lw_good) (h5 : Cond.code y cy maxL ret ∈ lw_good)
    (hd : y.cls = C ∧ y.cls ≠ "java/lang/invoke/MethodHandle" ∧ y.cls ≠ "java/lang/invoke/VarHandle" ∧ (parseMethodDescriptor y.desc).map (fun d => d.parameters.length) = some n) (hR : rm.frames + 1 ≤ R.frames ∧ 8 + (maxL + 11) + rm.locals ≤ R.locals ∧ rm.cells = mc ∧ rm.slots = ms)
    (hst : st0 = As.reverse ++ rest) (hdg : decode cc pc = .ok (.invokestatic index, 3)) (hn : As.length = n) (hsz : ls.size = nL) (hre : (rest.map fun v => v.category).sum ≤ 8) (hf : cells + mc ≤ R.cells ∧ slots + ms ≤ R.slots) :
    va_Run p l e R s m args below meth c H locs cells slots mc ms (F0 m pc ls st0) rest (Qc As.toArray) fr :=
  va_runS hF hM ⟨callB_of n hF.2.2.2.2 (good_in h5) rfl hR.2.2.1 hR.2.2.2 (by rw [hd.1]; exact hF.2.2.2.2 _ h4) (hF.2.2.2.2 _ h1) hd.2 ⟨hR.1, hR.2.1⟩, hF.2.2.2.2 _ h2⟩ ⟨Pre_blind, fun U hU hWm => ⟨rfl, by rw [hU]; exact hW, hK.warm hWm⟩⟩ rfl hn hsz hst (lv_room hre) hdg hf
theorem k_R {r : Int32} (hr : va_Run p l e R s m args below meth c H locs cells slots 0 0 (F0 m pc ls st0) rest (QR r a) NO) (kk : W p l e R s m args below meth c H locs cells slots Q (F0 m (pc + 3) ls (.int r :: rest))) : W p l e R s m args below meth c H locs cells slots Q (F0 m pc ls st0) := by
  intro T hT X
  obtain ⟨v, st₀, t, T', L, h0, X', hL, e1, e2, ⟨hv, hh⟩, st⟩ := hr T hT X
  cases hv
  obtain ⟨t2, a1, b1⟩ := kk T' (by rw [e1, hh, h0]) (Stand.forget X' (fun q h => (hL q h).elim))
  exact ⟨t2, st t2 a1, b1⟩
theorem k_RL {r : Int64} (hr : va_Run p l e R s m args below meth c H locs cells slots 0 0 (F0 m pc ls st0) rest (QRL r a) NO) (kk : W p l e R s m args below meth c H locs cells slots Q (F0 m (pc + 3) ls (.long r :: rest))) : W p l e R s m args below meth c H locs cells slots Q (F0 m pc ls st0) := by
  intro T hT X
  obtain ⟨v, st₀, t, T', L, h0, X', hL, e1, e2, ⟨hv, hh⟩, st⟩ := hr T hT X
  cases hv
  obtain ⟨t2, a1, b1⟩ := kk T' (by rw [e1, hh, h0]) (Stand.forget X' (fun q h => (hL q h).elim))
  exact ⟨t2, st t2 a1, b1⟩
theorem k_Rr {r : Nat} (hr : va_Run p l e R s m args below meth c H locs cells slots 0 0 (F0 m pc ls st0) rest (QRr r a) NO) (kk : W p l e R s m args below meth c H locs cells slots Q (F0 m (pc + 3) ls (.ref r :: rest))) : W p l e R s m args below meth c H locs cells slots Q (F0 m pc ls st0) := by
  intro T hT X
  obtain ⟨v, st₀, t, T', L, h0, X', hL, e1, e2, ⟨hv, hh⟩, st⟩ := hr T hT X
  cases hv
  obtain ⟨t2, a1, b1⟩ := kk T' (by rw [e1, hh, h0]) (Stand.forget X' (fun q h => (hL q h).elim))
  exact ⟨t2, st t2 a1, b1⟩
/-- a loop that changes locals alone -/
theorem w_loopR {σ : Type} (n : Nat) (I : Nat → σ → Prop) (L : Nat → σ → List (Nat × Value)) (i0 : Nat) (x0 : σ) (hi : i0 ≤ n) (h0 : I i0 x0) (hl : lv_has ls nL (L i0 x0))
    (step : ∀ (i : Nat) (x : σ) (ls : Array Slot), i ≤ n → I i x → lv_has ls nL (L i x) →
      (i < n → ∀ (x' : σ) (ls' : Array Slot), I (i + 1) x' → lv_has ls' nL (L (i + 1) x') → W p l e R s m args below meth c H locs cells slots Q (F0 m pc ls' [])) →
      W p l e R s m args below meth c H locs cells slots Q (F0 m pc ls [])) : W p l e R s m args below meth c H locs cells slots Q (F0 m pc ls []) := by
  suffices K : ∀ (k i : Nat) (x : σ) (ls : Array Slot), n - i < k → i ≤ n → I i x → lv_has ls nL (L i x) → W p l e R s m args below meth c H locs cells slots Q (F0 m pc ls []) from K (n - i0 + 1) i0 x0 ls (by omega) hi h0 hl
  intro k
  induction k with
  | zero => intro i x ls hk; omega
  | succ k ih =>
    intro i x ls hk hi hI hl
    exact step i x ls hi hI hl (fun hlt x' ls' a1 a4 => ih (i + 1) x' ls' (by omega) (by omega) a1 a4)
end CR2
/-- counts and sums -/
def cnB (q : Nat → Bool) : Nat → Nat
  | 0 => 0
  | n + 1 => cnB q n + (if q n = true then 1 else 0)
def sumF (f : Nat → Int32) : Nat → Int32
  | 0 => 0
  | n + 1 => sumF f n + f n
def cnP (q : Nat → Nat → Bool) (nb : Nat) : Nat → Nat
  | 0 => 0
  | a + 1 => cnP q nb a + cnB (fun d => q a (a + 1 + d)) (nb - (a + 1))
theorem cnB_le (q : Nat → Bool) : ∀ n, cnB q n ≤ n
  | 0 => Nat.le_refl _
  | n + 1 => by
    have h := cnB_le q n
    unfold cnB
    split <;> omega
theorem cnB_congr {q r : Nat → Bool} : ∀ {n : Nat}, (∀ k, k < n → q k = r k) → cnB q n = cnB r n
  | 0, _ => rfl
  | n + 1, h => by
    unfold cnB
    rw [cnB_congr (fun k hk => h k (by omega)), h n (by omega)]
theorem sumF_congr {q r : Nat → Int32} : ∀ {n : Nat}, (∀ k, k < n → q k = r k) → sumF q n = sumF r n
  | 0, _ => rfl
  | n + 1, h => by
    unfold sumF
    rw [sumF_congr (fun k hk => h k (by omega)), h n (by omega)]
/-- steps between stops of different stages, n steps from the stop a on -/
def f_cnt (sg : Nat → Int32) (a : Nat) : Nat → Nat
  | 0 => 0
  | n + 1 => f_cnt sg a n + (if sg ((a + n) % 10) = sg ((a + n + 1) % 10) then 0 else 1)
def f_fare (sg : Nat → Int32) (a c : Nat) : Int32 := if a = c then 0 else nI (2 + f_cnt sg a (if a < c then c - a else c + 10 - a))
theorem f_cnt_le (sg : Nat → Int32) (a : Nat) : ∀ n, f_cnt sg a n ≤ n
  | 0 => Nat.le_refl _
  | n + 1 => by
    have h := f_cnt_le sg a n
    unfold f_cnt
    split <;> omega
-- the class
def f_waits (g : S2) (P : Nat) (k : Int32) : Int32 := if g P 0 = 0 ∧ g P 1 = k then 1 else 0
def f_leaves (g : S2) (P B : Nat) (k : Int32) : Int32 := if g P 0 = 1 ∧ g P 3 = g B 0 ∧ g P 2 = k then 1 else 0
def f_lets (g : S2) (i : Nat) (t h : Int32) : Int32 := if h = 0 ∨ g i 2 = -1 ∨ ¬ (t - g i 2 < h) then 1 else 0
def f_bunch (g : S2) (i j : Nat) : Int32 := if g i 1 = g j 1 ∧ g i 2 = g j 2 then 1 else 0
def f_cpS (g : S2) (i j : Nat) : S2 := u2 (u2 (u2 g i 0 (g j 0)) i 1 (g j 1)) i 2 (g j 2)
def f_cpB (g : S2) (i j : Nat) : S2 := u2 (u2 (u2 (u2 (u2 (u2 g i 1 (g j 1)) i 2 (g j 2)) i 3 (g j 3)) i 4 (g j 4)) i 5 (g j 5)) i 6 (g j 6)
def f_cpP (g : S2) (i j : Nat) : S2 := u2 (u2 (u2 (u2 (u2 (u2 (u2 (u2 g i 0 (g j 0)) i 1 (g j 1)) i 2 (g j 2)) i 3 (g j 3)) i 4 (g j 4)) i 5 (g j 5)) i 6 (g j 6)) i 7 (g j 7)
def f_again (g : S2) (P : Nat) (to t : Int32) : S2 := u2 (u2 (u2 g P 7 (if 20 < t - g P 6 then 0 else 1)) P 0 0) P 2 to
def f_price (g : S2) (P : Nat) (full : Int32) : Int32 := if g P 7 = 0 then full else full / 2
def f_on (g : S2) (P B : Nat) (full : Int32) : S2 := u2 (u2 (u2 (u2 g P 7 0) P 0 1) P 3 (g B 0)) P 4 (g P 4 + f_price g P full)
def f_off (g : S2) (P : Nat) (t : Int32) : S2 := u2 (u2 (u2 (u2 g P 0 2) P 1 (g P 2)) P 3 (-1)) P 6 t
end
section
/-! a line's state: what its methods do, and what stays true of it -/
def cl (x : Int32) : Nat := x.toNatClampNeg
theorem cl_nI {x : Int32} {a n : Nat} (h : x = nI a) (ha : a < n) (hn : n ≤ 2048) : cl x = a := by
  subst h; exact nI_clamp (by omega)
def D10 (x : Int32) : Prop := ∃ a, a < 10 ∧ x = nI a
theorem D10.cl {x : Int32} (h : D10 x) : cl x < 10 ∧ x = nI (cl x) := by
  obtain ⟨a, ha, rfl⟩ := h
  rw [cl_nI rfl ha (by omega)]
  exact ⟨ha, rfl⟩
def rem10 (x : Int32) : Int32 := x - x / 10 * 10
theorem rem10_nI {n : Nat} (h : n < 2 ^ 31) : rem10 (nI n) = nI (n % 10) := pk_rem (d := 10) h (by decide) (by decide)
theorem D10.next {x : Int32} (h : D10 x) : D10 (rem10 (x + 1)) := by
  obtain ⟨a, ha, rfl⟩ := h
  refine ⟨(a + 1) % 10, by omega, ?_⟩
  rw [nI_1, rem10_nI (by omega)]
def f_fareI (sg : Nat → Int32) (x y : Int32) : Int32 := f_fare sg (cl x) (cl y)
/-- a line o with nb buses and np passengers -/
def OkL (o nb np : Nat) (g : S2) : Prop :=
  (g o 3 = nI nb ∧ nb ≤ 6) ∧ (g o 4 = nI np ∧ np ≤ 50) ∧ (∀ j, j < 6 → g (o + 14 + j) 0 = nI j) ∧ (∀ j, j < nb → D10 (g (o + 14 + j) 1) ∧ (g (o + 14 + j) 2 = 0 ∨ g (o + 14 + j) 2 = 1)) ∧
  (∀ p, p < np → D10 (g (o + 20 + p) 1) ∧ D10 (g (o + 20 + p) 2) ∧ (g (o + 20 + p) 7 = 0 ∨ g (o + 20 + p) 7 = 1))
theorem u2_if {g : S2} {i k a j : Nat} {x : Int32} {C : Int32 → Prop} (h : C (g a j)) (hx : a = i → j = k → C x) : C (u2 g i k x a j) := by
  rw [u2_app]
  split
  · rename_i q; exact hx q.1 q.2
  · exact h
theorem OkL.P {o nb np p k : Nat} {g : S2} {x : Int32} (h : OkL o nb np g) (hp : p < 50) (h1 : k = 1 ∨ k = 2 → D10 x) (h7 : k = 7 → x = 0 ∨ x = 1) : OkL o nb np (u2 g (o + 20 + p) k x) := by
  obtain ⟨⟨a1, a2⟩, ⟨b1, b2⟩, c, d, e⟩ := h
  refine ⟨⟨by rw [u2_n (by omega)]; exact a1, a2⟩, ⟨by rw [u2_n (by omega)]; exact b1, b2⟩, fun j hj => by rw [u2_n (by omega)]; exact c j hj, fun j hj => ?_, fun q hq => ?_⟩
  · rw [u2_n (by omega), u2_n (by omega)]; exact d j hj
  · exact ⟨u2_if (C := D10) (e q hq).1 (fun _ h => h1 (Or.inl h.symm)), u2_if (C := D10) (e q hq).2.1 (fun _ h => h1 (Or.inr h.symm)), u2_if (C := fun z => z = 0 ∨ z = 1) (e q hq).2.2 (fun _ h => h7 h.symm)⟩
theorem OkL.B {o nb np j k : Nat} {g : S2} {x : Int32} (h : OkL o nb np g) (hj : j < 6) (h0 : k ≠ 0) (h1 : k = 1 → D10 x) (h2 : k = 2 → x = 0 ∨ x = 1) : OkL o nb np (u2 g (o + 14 + j) k x) := by
  obtain ⟨⟨a1, a2⟩, ⟨b1, b2⟩, c, d, e⟩ := h
  refine ⟨⟨by rw [u2_n (by omega)]; exact a1, a2⟩, ⟨by rw [u2_n (by omega)]; exact b1, b2⟩, fun i hi => ?_, fun i hi => ?_, fun q hq => ?_⟩
  · rw [u2_app, if_neg (by omega)]; exact c i hi
  · exact ⟨u2_if (C := D10) (d i hi).1 (fun _ h => h1 h.symm), u2_if (C := fun z => z = 0 ∨ z = 1) (d i hi).2 (fun _ h => h2 h.symm)⟩
  · rw [u2_n (by omega), u2_n (by omega), u2_n (by omega)]; exact e q hq
theorem OkL.S {o nb np i k : Nat} {g : S2} {x : Int32} (h : OkL o nb np g) (hi : i < 10) : OkL o nb np (u2 g (o + 4 + i) k x) := by
  obtain ⟨⟨a1, a2⟩, ⟨b1, b2⟩, c, d, e⟩ := h
  refine ⟨⟨by rw [u2_n (by omega)]; exact a1, a2⟩, ⟨by rw [u2_n (by omega)]; exact b1, b2⟩, fun i hi => ?_, fun i hi => ?_, fun q hq => ?_⟩
  · rw [u2_n (by omega)]; exact c i hi
  · rw [u2_n (by omega), u2_n (by omega)]; exact d i hi
  · rw [u2_n (by omega), u2_n (by omega), u2_n (by omega)]; exact e q hq
theorem OkL.L {o nb np k : Nat} {g : S2} {x : Int32} (h : OkL o nb np g) (hk : k ≠ 3 ∧ k ≠ 4) : OkL o nb np (u2 g o k x) := by
  obtain ⟨⟨a1, a2⟩, ⟨b1, b2⟩, c, d, e⟩ := h
  refine ⟨⟨by rw [u2_app, if_neg (by omega)]; exact a1, a2⟩, ⟨by rw [u2_app, if_neg (by omega)]; exact b1, b2⟩, fun i hi => ?_, fun i hi => ?_, fun q hq => ?_⟩
  · rw [u2_n (by omega)]; exact c i hi
  · rw [u2_n (by omega), u2_n (by omega)]; exact d i hi
  · rw [u2_n (by omega), u2_n (by omega), u2_n (by omega)]; exact e q hq
/-- who rides in B and wants off here arrives: passenger n -/
def f_offs1 (o B n : Nat) (r : S2 × Nat) : S2 × Nat := if r.1 (o + 20 + n) 0 = 1 ∧ r.1 (o + 20 + n) 3 = r.1 B 0 ∧ r.1 (o + 20 + n) 2 = r.1 B 1 then (f_off r.1 (o + 20 + n) (r.1 o 5), r.2 + 1) else r
def f_offs (g : S2) (o B : Nat) : Nat → S2 × Nat
  | 0 => (g, 0)
  | n + 1 => f_offs1 o B n (f_offs g o B n)
def f_letOff (g : S2) (o B np : Nat) : S2 := u2 (f_offs g o B np).1 B 5 ((f_offs g o B np).1 B 5 - nI (f_offs g o B np).2)
def stg (g : S2) (o : Nat) : Nat → Int32 := fun i => g (o + 4 + i) 1
def f_board (g : S2) (o B P : Nat) : S2 := u2 (u2 (f_on g P B (f_fareI (stg g o) (g P 1) (g P 2))) B 6 (g B 6 + f_price g P (f_fareI (stg g o) (g P 1) (g P 2)))) B 5 (g B 5 + 1)
def f_ons1 (o B n : Nat) (r : S2 × Nat) : S2 × Nat := if r.1 B 5 < r.1 B 4 ∧ r.1 (o + 20 + n) 0 = 0 ∧ r.1 (o + 20 + n) 1 = r.1 B 1 then (f_board r.1 o B (o + 20 + n), r.2 + 1) else r
def f_ons (g : S2) (o B : Nat) : Nat → S2 × Nat
  | 0 => (g, 0)
  | n + 1 => f_ons1 o B n (f_ons g o B n)
def f_arr (g : S2) (B : Nat) : S2 := u2 (u2 (u2 g B 3 (g B 3 - 1)) B 1 (rem10 (g B 1 + 1))) B 2 0
def f_drive (g : S2) (o B np : Nat) : S2 :=
  if 0 < g B 3 - 1 then u2 g B 3 (g B 3 - 1)
  else u2 (f_ons (f_letOff (f_arr g B) o B np) o B np).1 B 3 (1 + nI (f_ons (f_letOff (f_arr g B) o B np) o B np).2 / 2 + nI (f_offs (f_arr g B) o B np).2 / 4)
def f_std1 (g : S2) (B : Nat) : S2 := if 0 < g B 3 then u2 g B 3 (g B 3 - 1) else g
def f_std2 (g : S2) (o B : Nat) : S2 :=
  if g B 3 = 0 ∧ f_lets g (o + 4 + cl (g B 1)) (g o 5) (g o 6) = 1 then u2 (u2 (u2 g (o + 4 + cl (g B 1)) 2 (g o 5)) B 2 1) B 3 (g (o + 4 + cl (g B 1)) 0) else g
def f_stand (g : S2) (o B : Nat) : S2 := f_std2 (f_std1 g B) o B
def f_bus1 (g : S2) (o np j : Nat) : S2 := if g (o + 14 + j) 2 = 0 then f_stand g o (o + 14 + j) else f_drive g o (o + 14 + j) np
def f_buses (g : S2) (o np : Nat) : Nat → S2
  | 0 => g
  | n + 1 => f_bus1 (f_buses g o np n) o np n
def f_wait1 (g : S2) (o p : Nat) : S2 := if g (o + 20 + p) 0 = 0 then u2 g (o + 20 + p) 5 (g (o + 20 + p) 5 + 1) else g
def f_waitN (g : S2) (o : Nat) : Nat → S2
  | 0 => g
  | n + 1 => f_wait1 (f_waitN g o n) o n
def f_tick (g : S2) (o : Nat) : S2 := u2 g o 5 (g o 5 + 1)
def f_min (g : S2) (o nb np : Nat) : S2 := f_tick (f_waitN (f_buses g o np nb) o np) o
def f_mins (g : S2) (o nb np : Nat) : Nat → S2
  | 0 => g
  | n + 1 => f_min (f_mins g o nb np n) o nb np
theorem okl_off {o nb np p : Nat} {g : S2} {t : Int32} (h : OkL o nb np g) (hp : p < np) : OkL o nb np (f_off g (o + 20 + p) t) := by
  have h50 := h.2.1.2
  unfold f_off
  refine OkL.P (OkL.P (OkL.P (OkL.P h (by omega) (by omega) (by omega)) (by omega) (fun _ => (h.2.2.2.2 p hp).2.1) (by omega)) (by omega) (by omega) (by omega)) (by omega) (by omega) (by omega)
theorem okl_offs {o nb np j : Nat} {g : S2} (h : OkL o nb np g) : ∀ n, n ≤ np → OkL o nb np (f_offs g o (o + 14 + j) n).1
  | 0, _ => h
  | n + 1, hn => by
    have ih := okl_offs (j := j) h n (by omega)
    unfold f_offs f_offs1
    split
    · exact okl_off ih (by omega)
    · exact ih
theorem okl_on {o nb np p B : Nat} {g : S2} {x : Int32} (h : OkL o nb np g) (hp : p < np) : OkL o nb np (f_on g (o + 20 + p) B x) := by
  have h50 := h.2.1.2
  unfold f_on
  refine OkL.P (OkL.P (OkL.P (OkL.P h (by omega) (by omega) (fun _ => Or.inl rfl)) (by omega) (by omega) (by omega)) (by omega) (by omega) (by omega)) (by omega) (by omega) (by omega)
theorem okl_board {o nb np p j : Nat} {g : S2} (h : OkL o nb np g) (hp : p < np) (hj : j < 6) : OkL o nb np (f_board g o (o + 14 + j) (o + 20 + p)) := by
  unfold f_board
  exact OkL.B (OkL.B (okl_on h hp) hj (by decide) (by omega) (by omega)) hj (by decide) (by omega) (by omega)
theorem okl_ons {o nb np j : Nat} {g : S2} (h : OkL o nb np g) (hj : j < 6) : ∀ n, n ≤ np → OkL o nb np (f_ons g o (o + 14 + j) n).1
  | 0, _ => h
  | n + 1, hn => by
    have ih := okl_ons (j := j) h hj n (by omega)
    unfold f_ons f_ons1
    split
    · exact okl_board ih (by omega) hj
    · exact ih
theorem okl_letOff {o nb np j : Nat} {g : S2} (h : OkL o nb np g) (hj : j < 6) : OkL o nb np (f_letOff g o (o + 14 + j) np) := by
  unfold f_letOff
  exact OkL.B (okl_offs h np (Nat.le_refl _)) hj (by decide) (by omega) (by omega)
theorem okl_arr {o nb np j : Nat} {g : S2} (h : OkL o nb np g) (hj : j < nb) : OkL o nb np (f_arr g (o + 14 + j)) := by
  have h6 := h.1.2
  unfold f_arr
  exact OkL.B (OkL.B (OkL.B h (by omega) (by decide) (by omega) (by omega)) (by omega) (by decide) (fun _ => (h.2.2.2.1 j hj).1.next) (by omega)) (by omega) (by decide) (by omega) (fun _ => Or.inl rfl)
theorem okl_drive {o nb np j : Nat} {g : S2} (h : OkL o nb np g) (hj : j < nb) : OkL o nb np (f_drive g o (o + 14 + j) np) := by
  have h6 := h.1.2
  unfold f_drive
  split
  · exact OkL.B h (by omega) (by decide) (by omega) (by omega)
  · exact OkL.B (okl_ons (okl_letOff (okl_arr h hj) (by omega)) (by omega) np (Nat.le_refl _)) (by omega) (by decide) (by omega) (by omega)
theorem okl_std1 {o nb np j : Nat} {g : S2} (h : OkL o nb np g) (hj : j < nb) : OkL o nb np (f_std1 g (o + 14 + j)) := by
  have h6 := h.1.2
  unfold f_std1
  split
  · exact OkL.B h (by omega) (by decide) (by omega) (by omega)
  · exact h
theorem okl_std2 {o nb np j : Nat} {g : S2} (h : OkL o nb np g) (hj : j < nb) : OkL o nb np (f_std2 g o (o + 14 + j)) := by
  have h6 := h.1.2
  unfold f_std2
  split
  · exact OkL.B (OkL.B (OkL.S h (h.2.2.2.1 j hj).1.cl.1) (by omega) (by decide) (by omega) (fun _ => Or.inr rfl)) (by omega) (by decide) (by omega) (by omega)
  · exact h
theorem okl_bus1 {o nb np j : Nat} {g : S2} (h : OkL o nb np g) (hj : j < nb) : OkL o nb np (f_bus1 g o np j) := by
  unfold f_bus1
  split
  · exact okl_std2 (okl_std1 h hj) hj
  · exact okl_drive h hj
theorem okl_buses {o nb np : Nat} {g : S2} (h : OkL o nb np g) : ∀ n, n ≤ nb → OkL o nb np (f_buses g o np n)
  | 0, _ => h
  | n + 1, hn => okl_bus1 (okl_buses h n (by omega)) (by omega)
theorem okl_wait1 {o nb np p : Nat} {g : S2} (h : OkL o nb np g) (hp : p < np) : OkL o nb np (f_wait1 g o p) := by
  have h50 := h.2.1.2
  unfold f_wait1
  split
  · exact OkL.P h (by omega) (by omega) (by omega)
  · exact h
theorem okl_waitN {o nb np : Nat} {g : S2} (h : OkL o nb np g) : ∀ n, n ≤ np → OkL o nb np (f_waitN g o n)
  | 0, _ => h
  | n + 1, hn => okl_wait1 (okl_waitN h n (by omega)) (by omega)
theorem okl_min {o nb np : Nat} {g : S2} (h : OkL o nb np g) : OkL o nb np (f_min g o nb np) := by
  unfold f_min f_tick
  exact OkL.L (okl_waitN (okl_buses h nb (Nat.le_refl _)) np (Nat.le_refl _)) (by decide)
theorem okl_mins {o nb np : Nat} {g : S2} (h : OkL o nb np g) : ∀ n, OkL o nb np (f_mins g o nb np n)
  | 0 => h
  | n + 1 => okl_min (okl_mins h n)
/-- seats once full stay full: the rest of the passengers changes nothing -/
theorem f_ons_full {o B : Nat} {g : S2} : ∀ {n m : Nat}, n ≤ m → ¬ (f_ons g o B n).1 B 5 < (f_ons g o B n).1 B 4 → f_ons g o B m = f_ons g o B n
  | n, 0, h, _ => by rw [show n = 0 by omega]
  | n, m + 1, h, hf => by
    rcases Nat.lt_or_ge m n with q | q
    · rw [show n = m + 1 by omega]
    · have ih := f_ons_full (m := m) q hf
      show f_ons1 o B m (f_ons g o B m) = _
      rw [ih]
      unfold f_ons1
      rw [if_neg (fun z => hf z.1)]
section TOP
variable {p : Program} {l : Launch} {e : Env} {R : Room} {s : State} {m : MethodId} {args : Array Value} {below : List Frame} {meth : Method} {c : Code} {H : Heap} {locs : List Loc} {cells slots : Nat} {Q : State → Prop}
variable {pc : Nat} {ls : Array Slot} {rest : List Value}
/-- the int on top by another name -/
theorem w_top {x y : Int32} (h : x = y) (kk : W p l e R s m args below meth c H locs cells slots Q (F0 m pc ls (.int y :: rest))) : W p l e R s m args below meth c H locs cells slots Q (F0 m pc ls (.int x :: rest)) := h ▸ kk
theorem w_topl {x y : Int64} (h : x = y) (kk : W p l e R s m args below meth c H locs cells slots Q (F0 m pc ls (.long y :: rest))) : W p l e R s m args below meth c H locs cells slots Q (F0 m pc ls (.long x :: rest)) := h ▸ kk
end TOP
end
section
theorem f_on_B {g : S2} {P B k : Nat} {x : Int32} (h : B ≠ P) : f_on g P B x B k = g B k := by
  unfold f_on; rw [u2_n h, u2_n h, u2_n h, u2_n h]
theorem f_lets01 {g : S2} {i : Nat} {t h : Int32} : f_lets g i t h = 0 ∨ f_lets g i t h = 1 := by unfold f_lets; exact ite01
theorem f_leaves0 {g : S2} {P B : Nat} {k : Int32} : f_leaves g P B k = 0 ↔ ¬ (g P 0 = 1 ∧ g P 3 = g B 0 ∧ g P 2 = k) := by unfold f_leaves; exact ite0
theorem f_leaves1 {g : S2} {P B : Nat} {k : Int32} : ¬ f_leaves g P B k = 0 ↔ (g P 0 = 1 ∧ g P 3 = g B 0 ∧ g P 2 = k) := by unfold f_leaves; exact ite1
theorem f_waits0 {g : S2} {P : Nat} {k : Int32} : f_waits g P k = 0 ↔ ¬ (g P 0 = 0 ∧ g P 1 = k) := by unfold f_waits; exact ite0
theorem f_waits1 {g : S2} {P : Nat} {k : Int32} : ¬ f_waits g P k = 0 ↔ (g P 0 = 0 ∧ g P 1 = k) := by unfold f_waits; exact ite1
theorem f_bunch0 {g : S2} {i j : Nat} : f_bunch g i j = 0 ↔ ¬ (g i 1 = g j 1 ∧ g i 2 = g j 2) := by unfold f_bunch; exact ite0
theorem f_bunch1 {g : S2} {i j : Nat} : ¬ f_bunch g i j = 0 ↔ (g i 1 = g j 1 ∧ g i 2 = g j 2) := by unfold f_bunch; exact ite1
-- what a line tells
def q_in (g : S2) (o : Nat) (k : Int32) : Nat → Bool := fun q => decide (g (o + 20 + q) 0 = k)
def q_wa (g : S2) (o : Nat) (k : Int32) : Nat → Bool := fun q => decide (g (o + 20 + q) 0 = 0 ∧ g (o + 20 + q) 1 = k)
def q_st (g : S2) (o : Nat) (k : Int32) : Nat → Bool := fun q => decide (g (o + 14 + q) 2 = 0 ∧ g (o + 14 + q) 1 = k)
def q_bu (g : S2) (o : Nat) : Nat → Nat → Bool := fun a c => decide (g (o + 14 + a) 1 = g (o + 14 + c) 1 ∧ g (o + 14 + a) 2 = g (o + 14 + c) 2)
def f_tellS (g : S2) (o nb np n : Nat) : Nat → Int32
  | 0 => g (o + 4 + n) 0
  | 1 => g (o + 4 + n) 1
  | 2 => nI (cnB (q_wa g o (nI n)) np)
  | 3 => nI (cnB (q_st g o (nI n)) nb)
  | _ => g (o + 4 + n) 2
def f_tellC (g : S2) (o nb np : Nat) : Nat → Int32
  | 0 => g o 5
  | 1 => g o 6
  | 2 => g o 3
  | 3 => g o 4
  | 4 => nI (cnB (q_in g o 0) np)
  | 5 => nI (cnB (q_in g o 1) np)
  | 6 => nI (cnB (q_in g o 2) np)
  | 7 => sumF (fun q => g (o + 20 + q) 4) np
  | 8 => sumF (fun q => g (o + 20 + q) 5) np
  | _ => nI (cnP (q_bu g o) nb nb)
-- a line copied from another one
def f_cpSs (g : S2) (t o : Nat) : Nat → S2
  | 0 => g
  | n + 1 => f_cpS (f_cpSs g t o n) (t + 4 + n) (o + 4 + n)
def f_cpBs (g : S2) (t o : Nat) : Nat → S2
  | 0 => g
  | n + 1 => f_cpB (f_cpBs g t o n) (t + 14 + n) (o + 14 + n)
def f_cpPs (g : S2) (t o : Nat) : Nat → S2
  | 0 => g
  | n + 1 => f_cpP (f_cpPs g t o n) (t + 20 + n) (o + 20 + n)
def f_copy (g : S2) (t o nb np : Nat) : S2 :=
  u2 (u2 (u2 (u2 (f_cpPs (f_cpBs (f_cpSs g t o 10) t o nb) t o np) t 3 (g o 3)) t 4 (g o 4)) t 5 (g o 5)) t 6 (g o 6)
theorem cpSs_n {g : S2} {t o a : Nat} : ∀ {n : Nat}, n ≤ 10 → (a < t + 4 ∨ t + 14 ≤ a) → f_cpSs g t o n a = g a
  | 0, _, _ => rfl
  | n + 1, h, ha => by
    unfold f_cpSs f_cpS
    rw [u2_ne (by omega), u2_ne (by omega), u2_ne (by omega)]
    exact cpSs_n (by omega) ha
theorem cpBs_n {g : S2} {t o a : Nat} : ∀ {n : Nat}, n ≤ 6 → (a < t + 14 ∨ t + 20 ≤ a) → f_cpBs g t o n a = g a
  | 0, _, _ => rfl
  | n + 1, h, ha => by
    unfold f_cpBs f_cpB
    rw [u2_ne (by omega), u2_ne (by omega), u2_ne (by omega), u2_ne (by omega), u2_ne (by omega), u2_ne (by omega)]
    exact cpBs_n (by omega) ha
theorem cpPs_n {g : S2} {t o a : Nat} : ∀ {n : Nat}, n ≤ 50 → (a < t + 20 ∨ t + 70 ≤ a) → f_cpPs g t o n a = g a
  | 0, _, _ => rfl
  | n + 1, h, ha => by
    unfold f_cpPs f_cpP
    rw [u2_ne (by omega), u2_ne (by omega), u2_ne (by omega), u2_ne (by omega), u2_ne (by omega), u2_ne (by omega), u2_ne (by omega), u2_ne (by omega)]
    exact cpPs_n (by omega) ha
/-- two different lines -/
def isLL (t o : Nat) : Prop := (t = 1 ∧ o = 71) ∨ (t = 71 ∧ o = 1)
theorem okl_eq {o nb np : Nat} {g g' : S2} (h : OkL o nb np g) (e : ∀ a, o ≤ a → a < o + 70 → g' a = g a) : OkL o nb np g' := by
  obtain ⟨⟨a1, a2⟩, ⟨b1, b2⟩, c, d, f⟩ := h
  refine ⟨⟨by rw [e o (by omega) (by omega)]; exact a1, a2⟩, ⟨by rw [e o (by omega) (by omega)]; exact b1, b2⟩, fun j hj => by rw [e _ (by omega) (by omega)]; exact c j hj, fun j hj => by rw [e _ (by omega) (by omega)]; exact d j hj, fun p hp => by rw [e _ (by omega) (by omega)]; exact f p hp⟩
theorem okl_cpSs {t o nb np n : Nat} {g : S2} (hl : isLL t o) (h : OkL o nb np g) (hn : n ≤ 10) : OkL o nb np (f_cpSs g t o n) := okl_eq h (fun a h1 h2 => cpSs_n hn (by unfold isLL at hl; omega))
theorem okl_cpBs {t o nb np n : Nat} {g : S2} (hl : isLL t o) (h : OkL o nb np g) (hn : n ≤ 6) : OkL o nb np (f_cpBs g t o n) := okl_eq h (fun a h1 h2 => cpBs_n hn (by unfold isLL at hl; omega))
theorem okl_cpPs {t o nb np n : Nat} {g : S2} (hl : isLL t o) (h : OkL o nb np g) (hn : n ≤ 50) : OkL o nb np (f_cpPs g t o n) := okl_eq h (fun a h1 h2 => cpPs_n hn (by unfold isLL at hl; omega))
def f_addBus (g : S2) (o nb : Nat) (x y : Int32) : S2 := u2 (u2 (u2 (u2 g (o + 14 + nb) 1 x) (o + 14 + nb) 3 1) (o + 14 + nb) 4 y) o 3 (nI (nb + 1))
def f_addPas (g : S2) (o np : Nat) (x y : Int32) : S2 := u2 (u2 (u2 g (o + 20 + np) 1 x) (o + 20 + np) 2 y) o 4 (nI (np + 1))
theorem isLL.l {t o : Nat} (h : isLL t o) : isL t := by unfold isLL at h; unfold isL; omega
theorem isLL.r {t o : Nat} (h : isLL t o) : isL o := by unfold isLL at h; unfold isL; omega
end
section
/-! methods that throw, and the face's small tests -/
def strs : List (Nat × String) := [(25, "there is no such stop"), (36, "minutes are 1 to 9, a stage is 0 to 9"), (52, "a hold is 0 to 15"), (57, "seats are 1 to 20"), (64, "there are 6 buses"), (71, "both stops are the same"), (76, "there are 50 passengers"), (84, "there is no such passenger or stop"), (98, "this one has not arrived, or is there already"), (114, "there is no such bus or answer"), (126, "there is no such passenger or answer"), (129, "there is no such stop or answer"), (134, "there is no such answer"), (139, "minutes are 1 to 120"), (148, "there is no such passenger")]
abbrev xIO : String := "java/lang/IndexOutOfBoundsException"
abbrev xIA : String := "java/lang/IllegalArgumentException"
abbrev xIS : String := "java/lang/IllegalStateException"
abbrev xUp : List String := ["java/lang/RuntimeException", "java/lang/Exception"]
def ncs : List (String × String) := [(xIA, xIO), (xIS, xIO), (xIS, xIA), (xIO, xIA)]
/-- what a throw and its catching need of the tables, and of what stands apart from the world -/
def KT (b : Nat) (U : State) (H : Heap) : Prop :=
  vx_Zq Bundle.tN "UNASSIGNED_STACK" Bundle.steD (AA b) U H ∧ vx_Zq Bundle.tN "SUPPRESSED_SENTINEL" Bundle.listD (AA b) U H ∧ (∀ q ∈ strs, ∃ sa : Nat, vk_R RX4 q.1 q.2 sa U) ∧ ∀ q ∈ ncs, va_Nc q.1 q.2 U
theorem KT.go {b : Nat} {s U : State} {H : Heap} {locs : List Loc} (k : KT b s s.heap) (hS : va_S (AA b) s.heap H locs) (hW : s.WarmedH U.vm) (hU : U.heap = H) : KT b U U.heap := by
  rw [hU]
  exact ⟨vx_Zq.moved hW.alike (k.1.kept hS.2.1), vx_Zq.moved hW.alike (k.2.1.kept hS.2.1), fun q hq => ⟨_, vk_R.warm hW (k.2.2.1 q hq).choose_spec⟩, fun q hq => va_Nc.moved hW.alike (k.2.2.2 q hq)⟩
theorem KT.blind {b : Nat} {U : State} {g : JFrame} {mk : MethodId} {a : Array Value} (k : KT b U U.heap) : KT b (U.calling g mk a) (U.calling g mk a).heap :=
  ⟨vx_Zq.moved (u := U) (U := U.calling g mk a) (Vm.Alike.refl U.vm) k.1, vx_Zq.moved (u := U) (U := U.calling g mk a) (Vm.Alike.refl U.vm) k.2.1, fun q hq => ⟨_, vk_R.same (u := U) (U := U.calling g mk a) rfl (k.2.2.1 q hq).choose_spec⟩, fun q hq => va_Nc.moved (u := U) (U := U.calling g mk a) (Vm.Alike.refl U.vm) (k.2.2.2 q hq)⟩
def PreX (X : CX) (b : Nat) (g : S2) (w : Int64) (av : List Value) : Array Value → State → Prop := va_Pc av (fun U => wd X b g w U.heap ∧ KK X U ∧ KT b U U.heap)
theorem PreX_blind {X : CX} {b : Nat} {g : S2} {w : Int64} {av : List Value} : FrameBlind (PreX X b g w av) := fun _ _ _ _ q => ⟨q.1, q.2.1, q.2.2.1.blind, q.2.2.2.blind⟩
abbrev XQ (X : CX) (b : Nat) (g : S2) (w : Int64) (XE : String → Prop) := vx_X (fun _ : Unit => True) (fun E _ t => XE E ∧ wd X b g w t.heap) (AA b)
theorem wd_grow {X : CX} {b : Nat} {g : S2} {w : Int64} {H H1 : Heap} (h : wd X b g w H) (hz : H.size ≤ H1.size) (hk : ∀ q : Nat, q < H.size → H1[q]? = H[q]?) : wd X b g w H1 := by
  have h1 := h.1
  exact ⟨by omega, fun i hi => (h.2 i hi).kept (hk (b + i) (by omega))⟩
theorem at_ok (own : String) (ic : Nat) (cls : String) (h : ∀ w ∈ vx_atS own ic cls xUp, w ∈ lw_good ∨ (w ∈ lw_tbl ∧ lw_ext w = true)) {args : Array Value} {s : State} {X : CX} (hts : ∀ w ∈ lw_good, w.before args s = true) (hK : KK X s) : ∀ w ∈ vx_atS own ic cls xUp, w.before args s = true := by
  intro w hw
  rcases h w hw with q | q
  · exact hts w q
  · exact va_Nw.use (ext_tables q.2) (hK.nw q.1 q.2)
set_option maxRecDepth 100000 in
theorem at_IO : ∀ w ∈ vx_atS RX4 27 xIO xUp, w ∈ lw_good ∨ (w ∈ lw_tbl ∧ lw_ext w = true) := by decide +kernel
set_option maxRecDepth 100000 in
theorem at_IA : ∀ w ∈ vx_atS RX4 38 xIA xUp, w ∈ lw_good ∨ (w ∈ lw_tbl ∧ lw_ext w = true) := by decide +kernel
set_option maxRecDepth 100000 in
theorem at_IS : ∀ w ∈ vx_atS RX4 66 xIS xUp, w ∈ lw_good ∨ (w ∈ lw_tbl ∧ lw_ext w = true) := by decide +kernel
set_option maxRecDepth 100000 in
theorem gd_IO : ∀ w ∈ Cond.classLink RX4 23 xIO :: Cond.initialized xIO :: vx_atS RX4 27 xIO xUp, vx_ot w = true := by decide +kernel
set_option maxRecDepth 100000 in
theorem gd_IA : ∀ w ∈ Cond.classLink RX4 34 xIA :: Cond.initialized xIA :: vx_atS RX4 38 xIA xUp, vx_ot w = true := by decide +kernel
set_option maxRecDepth 100000 in
theorem gd_IS : ∀ w ∈ Cond.classLink RX4 62 xIS :: Cond.initialized xIS :: vx_atS RX4 66 xIS xUp, vx_ot w = true := by decide +kernel
section TX
variable {p : Program} {l : Launch} {e : Env} {R : Room} {s : State} {m : MethodId} {args : Array Value} {below : List Frame} {meth : Method} {c : Code} {H : Heap} {locs : List Loc} {cells slots : Nat} {Q : State → Prop}
variable {cc : ByteArray} {pc : Nat} {ls : Array Slot} {rest st0 : List Value} {X : CX} {b : Nat} {g : S2} {w : Int64} {H0 : Heap}
/-- 'throw new E("text")' in the face, nothing written yet -/
theorem w_throw {Qc : Array Value → State → Outcome → State → Prop} {XE : String → Prop} {cls text : String} {ik is ic : Nat} (hx : p.tables.exec = Jvm.exec) (hb : c.code = cc) (hst : l.stackTraces = false) (hown : s.vm.findClass RX4 = some m.cls) (hcls : Bundle.fit cls = true) (hnm : ∀ n ∈ xUp, Bundle.fit n = true)
    (hts : ∀ w ∈ lw_good, w.before args s = true) (hK : KK X s) (hT : KT b s s.heap) (hk : Cond.classLink RX4 ik cls ∈ lw_good) (hini : Cond.initialized cls ∈ lw_good) (hat : ∀ w ∈ vx_atS RX4 ic cls xUp, w ∈ lw_good ∨ (w ∈ lw_tbl ∧ lw_ext w = true)) (hgd : ∀ w ∈ Cond.classLink RX4 ik cls :: Cond.initialized cls :: vx_atS RX4 ic cls xUp, vx_ot w = true) (hstr : (is, text) ∈ strs)
    (hW : wd X b g w s.heap) (hsize : ls.size = c.maxLocals) (hE : XE cls)
    (d0 : decode cc pc = .ok (.new ik, 3)) (d3 : decode cc (pc + 3) = .ok (.dup, 1)) (d4 : decode cc (pc + 4) = .ok (.ldc is, 2)) (d6 : decode cc (pc + 6) = .ok (.invokespecial ic, 3)) (d9 : decode cc (pc + 9) = .ok (.athrow, 1))
    (hout : ∀ x ∈ c.exceptionTable.toList, False) (hRf : 5 < R.frames) (hRl : (rest.map fun v => v.category).sum + 82 ≤ R.locals) (hRc : 1 ≤ R.cells) (hRs : 6 ≤ R.slots) (hlocks : meth.locks = false) :
    W p l e R s m args below meth c s.heap [] 0 0 (vx_MQ below Qc (XQ X b g w XE) args s 1 6 (AA b)) (F0 m pc ls rest) := by
  obtain ⟨sa, hsa⟩ := hT.2.2.1 _ hstr
  exact vx_throwS hx hb hst hown hcls hnm (hts _ hk) (hts _ hini) hsa (at_ok RX4 ic cls hat hts hK) hgd hT.1 hT.2.1 va_S.rf hsize d0 d3 d4 d6 d9 (fun x hx => (hout x hx).elim) hRf hRl (by omega) (by omega) hlocks
    (fun t _ hz hk => ⟨(), trivial, ⟨hE, wd_grow hW hz hk⟩, hz, fun q h1 _ => hk q h1⟩) (fun z hz => by cases hz) (by omega) (by omega)
variable {own C : String} {y : MethodName} {cy : ByteArray} {maxL nL n index mc ms : Nat} {ret : Option FieldType} {rm : Room} {Qc : Array Value → State → Outcome → State → Prop} {XC : String → State → State → Prop} {As : List Value} {a : Array Value} {fr : Addr → Prop}
/-- a call of a method of the face that may throw -/
theorem x_V (hF : CallFix p m c cc nL s args lw_good own) {i : Nat} (hM : vx_Met l y (wsg y cy maxL ret) rm (PreX X b g w (.ref (b + i) :: As)) Qc XC mc ms fr) (hK : KK X s) (hT : KT b s s.heap) (hS : va_S (AA b) s.heap H locs) (hW : wd X b g w H) (hi : i < 141) {fs : List Value} {T : u_T} {N ci : Nat} (he : Ent X b g w i = .inr (ci, fs)) (hc : vwCl[ci]? = some (C, T, N))
    (h1 : Cond.methodLink own index y ∈ lw_good) (h2 : Cond.instanceMethod y ∈ lw_good) (h3 : Cond.selects C y y ∈ lw_good) (h4 : Cond.initialized C ∈ lw_good) (h5 : Cond.code y cy maxL ret ∈ lw_good)
    (hd : y.cls = C ∧ y.cls ≠ "java/lang/invoke/MethodHandle" ∧ y.cls ≠ "java/lang/invoke/VarHandle" ∧ (parseMethodDescriptor y.desc).map (fun d => d.parameters.length) = some n) (hR : rm.frames + 1 ≤ R.frames ∧ 8 + (maxL + 11) + rm.locals ≤ R.locals ∧ rm.cells = mc ∧ rm.slots = ms)
    (hst : st0 = As.reverse ++ .ref (b + i) :: rest) (hdg : decode cc pc = .ok (.invokevirtual index, 3)) (hn : As.length = n) (hsz : ls.size = nL) (hre : (rest.map fun v => v.category).sum ≤ 8) (hf : cells + mc ≤ R.cells ∧ slots + ms ≤ R.slots) :
    vx_Run p l e R s m args below meth c H locs cells slots mc ms (F0 m pc ls st0) rest (Qc (Value.ref (b + i) :: As).toArray) XC fr :=
  vx_runV hF hM ⟨callB_of n hF.2.2.2.2 (good_in h5) rfl hR.2.2.1 hR.2.2.2 (by rw [hd.1]; exact hF.2.2.2.2 _ h4) (hF.2.2.2.2 _ h1) hd.2 ⟨hR.1, hR.2.1⟩, hF.2.2.2.2 _ h2, by have h := hF.2.2.2.2 _ h3; exact h⟩ ⟨PreX_blind, va_recv (q0 := 0) hK.1 (wd_P hW hi he) hc rfl, fun U hU hWm => ⟨rfl, by rw [hU]; exact hW, hK.warm hWm, hT.go hS hWm hU⟩⟩ rfl hn hsz hst (lv_room hre) hdg hf
end TX
theorem upFit : ∀ n ∈ xUp, Bundle.fit n = true := by decide
/-- v within lo .. hi -/
def f_in (v lo hi : Int32) : Int32 := if ¬ v < lo ∧ ¬ hi < v then 1 else 0
theorem f_in0 {v lo hi : Int32} : f_in v lo hi = 0 ↔ ¬ (¬ v < lo ∧ ¬ hi < v) := by unfold f_in; exact ite0
theorem f_in1 {v lo hi : Int32} : ¬ f_in v lo hi = 0 ↔ (¬ v < lo ∧ ¬ hi < v) := by unfold f_in; exact ite1
theorem f_in01 {v lo hi : Int32} : f_in v lo hi = 0 ∨ f_in v lo hi = 1 := by unfold f_in; exact ite01
theorem in_nI {v M : Int32} {k : Nat} (h : ¬ f_in v 0 M = 0) (hM : M = nI k) (hk : k < 2000) : cl v ≤ k ∧ v = nI (cl v) := by
  obtain ⟨h1, h2⟩ := f_in1.mp h
  subst hM
  obtain ⟨j, hj, rfl⟩ := nI_of h1
  have h3 : j ≤ k := by
    have := Int32.not_lt.mp h2
    exact (nI_leI hj (by omega)).mp this
  rw [cl_nI (n := 2048) rfl (by omega) (by omega)]
  exact ⟨h3, rfl⟩
theorem in_lt {v : Int32} {k : Nat} (h : ¬ f_in v 0 (nI k - 1) = 0) (hk : k < 2000) : cl v < k ∧ v = nI (cl v) := by
  cases k with
  | zero =>
    obtain ⟨h1, h2⟩ := f_in1.mp h
    obtain ⟨j, hj, rfl⟩ := nI_of h1
    exfalso
    have h3 := Int32.not_lt.mp h2
    have h4 : nI j ≤ (-1 : Int32) := h3
    have h5 : (nI j).toInt ≤ (-1 : Int32).toInt := Int32.le_iff_toInt_le.mp h4
    rw [nI_toInt hj] at h5
    simp at h5
    omega
  | succ k =>
    rw [nI_pred] at h
    obtain ⟨h1, h2⟩ := in_nI h rfl (by omega)
    exact ⟨by omega, h2⟩
theorem in_1 {v M : Int32} {k : Nat} (h : ¬ f_in v 1 M = 0) (hM : M = nI k) (hk : k < 2000) : 1 ≤ cl v ∧ cl v ≤ k ∧ v = nI (cl v) := by
  obtain ⟨h1, h2⟩ := f_in1.mp h
  have h0 : ¬ v < 0 := fun q => h1 (Int32.lt_of_lt_of_le q (by decide))
  obtain ⟨h3, h4⟩ := in_nI (v := v) (M := M) (f_in1.mpr ⟨h0, h2⟩) hM hk
  refine ⟨?_, h3, h4⟩
  rcases Nat.eq_zero_or_pos (cl v) with q | q
  · rw [h4, q] at h1
    exact absurd (show nI 0 < 1 by decide) h1
  · exact q
end
section
/-! the face: which exception (0: none), by the number that the law's helper gives it; frames of a line's changes -/
def er_set (a1 a2 a3 : Int32) : Nat := if f_in a1 0 9 = 0 then 1 else if f_in a2 1 9 = 0 ∨ f_in a3 0 9 = 0 then 2 else 0
def er_hold (a1 : Int32) : Nat := if f_in a1 0 15 = 0 then 1 else 0
def er_start (nb : Int32) (a1 a2 : Int32) : Nat := if f_in a1 0 9 = 0 then 1 else if f_in a2 1 20 = 0 then 2 else if ¬ nb < 6 then 3 else 0
def er_queue (np : Int32) (a1 a2 : Int32) : Nat := if f_in a1 0 9 = 0 ∨ f_in a2 0 9 = 0 then 1 else if a1 = a2 then 2 else if ¬ np < 50 then 3 else 0
def er_change (np st at_ : Int32) (a1 a2 : Int32) : Nat := if f_in a1 0 (np - 1) = 0 ∨ f_in a2 0 9 = 0 then 1 else if ¬ st = 2 ∨ at_ = a2 then 2 else 0
def er_2 (m1 m2 : Int32) (a1 a2 : Int32) : Nat := if f_in a1 0 m1 = 0 ∨ f_in a2 0 m2 = 0 then 1 else 0
def er_1 (lo m1 : Int32) (a1 : Int32) : Nat := if f_in a1 lo m1 = 0 then 1 else 0
def er_see (a1 a2 : Int32) : Nat := if f_in a1 1 120 = 0 then 1 else if f_in a2 0 3 = 0 then 2 else 0
-- frames
def Out (o a : Nat) : Prop := a < o ∨ o + 70 ≤ a
theorem fr_off {g : S2} {o p a : Nat} {t : Int32} (ha : Out o a) (hp : p < 50) : f_off g (o + 20 + p) t a = g a := by
  unfold Out at ha; unfold f_off
  rw [u2_ne (by omega), u2_ne (by omega), u2_ne (by omega), u2_ne (by omega)]
theorem fr_offs {g : S2} {o B a : Nat} (ha : Out o a) : ∀ {n : Nat}, n ≤ 50 → (f_offs g o B n).1 a = g a
  | 0, _ => rfl
  | n + 1, h => by
    unfold f_offs f_offs1
    split
    · exact (fr_off (p := n) ha (by omega)).trans (fr_offs ha (by omega))
    · exact fr_offs ha (by omega)
theorem fr_letOff {g : S2} {o j a np : Nat} (ha : Out o a) (hj : j < 6) (hn : np ≤ 50) : f_letOff g o (o + 14 + j) np a = g a := by
  unfold f_letOff
  rw [u2_ne (by unfold Out at ha; omega)]
  exact fr_offs ha hn
theorem fr_board {g : S2} {o j p a : Nat} (ha : Out o a) (hj : j < 6) (hp : p < 50) : f_board g o (o + 14 + j) (o + 20 + p) a = g a := by
  unfold Out at ha; unfold f_board f_on
  rw [u2_ne (by omega), u2_ne (by omega), u2_ne (by omega), u2_ne (by omega), u2_ne (by omega), u2_ne (by omega)]
theorem fr_ons {g : S2} {o j a : Nat} (ha : Out o a) (hj : j < 6) : ∀ {n : Nat}, n ≤ 50 → (f_ons g o (o + 14 + j) n).1 a = g a
  | 0, _ => rfl
  | n + 1, h => by
    unfold f_ons f_ons1
    split
    · exact (fr_board (p := n) ha hj (by omega)).trans (fr_ons ha hj (by omega))
    · exact fr_ons ha hj (by omega)
theorem fr_arr {g : S2} {o j a : Nat} (ha : Out o a) (hj : j < 6) : f_arr g (o + 14 + j) a = g a := by
  unfold Out at ha; unfold f_arr
  rw [u2_ne (by omega), u2_ne (by omega), u2_ne (by omega)]
theorem fr_drive {g : S2} {o j a np : Nat} (ha : Out o a) (hj : j < 6) (hn : np ≤ 50) : f_drive g o (o + 14 + j) np a = g a := by
  have hne : a ≠ o + 14 + j := by unfold Out at ha; omega
  unfold f_drive
  split
  · rw [u2_ne hne]
  · rw [u2_ne hne, fr_ons ha hj hn, fr_letOff ha hj hn, fr_arr ha hj]
theorem fr_std1 {g : S2} {o j a : Nat} (ha : Out o a) (hj : j < 6) : f_std1 g (o + 14 + j) a = g a := by
  unfold f_std1
  split
  · rw [u2_ne (by unfold Out at ha; omega)]
  · rfl
theorem fr_std2 {g : S2} {o j a : Nat} (ha : Out o a) (hj : j < 6) (hc : cl (g (o + 14 + j) 1) < 10) : f_std2 g o (o + 14 + j) a = g a := by
  unfold f_std2
  split
  · rw [u2_ne (by unfold Out at ha; omega), u2_ne (by unfold Out at ha; omega), u2_ne (by unfold Out at ha; omega)]
  · rfl
theorem fr_bus1 {g : S2} {o nb np j a : Nat} (ha : Out o a) (h : OkL o nb np g) (hj : j < nb) : f_bus1 g o np j a = g a := by
  have h6 := h.1.2
  unfold f_bus1 f_stand
  split
  · rw [fr_std2 ha (by omega) ((okl_std1 h hj).2.2.2.1 j hj).1.cl.1, fr_std1 ha (by omega)]
  · exact fr_drive ha (by omega) h.2.1.2
theorem fr_buses {g : S2} {o nb np a : Nat} (ha : Out o a) (h : OkL o nb np g) : ∀ {n : Nat}, n ≤ nb → f_buses g o np n a = g a
  | 0, _ => rfl
  | n + 1, hn => by
    unfold f_buses
    rw [fr_bus1 ha (okl_buses h n (by omega)) (by omega)]
    exact fr_buses ha h (by omega)
theorem fr_waitN {g : S2} {o a : Nat} (ha : Out o a) : ∀ {n : Nat}, n ≤ 50 → f_waitN g o n a = g a
  | 0, _ => rfl
  | n + 1, hn => by
    unfold f_waitN f_wait1
    split
    · rw [u2_ne (by unfold Out at ha; omega)]; exact fr_waitN ha (by omega)
    · exact fr_waitN ha (by omega)
theorem fr_min {g : S2} {o nb np a : Nat} (ha : Out o a) (h : OkL o nb np g) : f_min g o nb np a = g a := by
  unfold f_min f_tick
  rw [u2_ne (by unfold Out at ha; omega), fr_waitN ha h.2.1.2, fr_buses ha h (Nat.le_refl _)]
theorem fr_mins {g : S2} {o nb np a : Nat} (ha : Out o a) (h : OkL o nb np g) : ∀ {n : Nat}, f_mins g o nb np n a = g a
  | 0 => rfl
  | n + 1 => by
    unfold f_mins
    rw [fr_min ha (okl_mins h n)]
    exact fr_mins ha h
theorem fr_copy {g : S2} {t o nb np a : Nat} (ha : Out t a) (hb : nb ≤ 6) (hp : np ≤ 50) : f_copy g t o nb np a = g a := by
  unfold Out at ha; unfold f_copy
  rw [u2_ne (by omega), u2_ne (by omega), u2_ne (by omega), u2_ne (by omega), cpPs_n hp (by omega), cpBs_n hb (by omega), cpSs_n (Nat.le_refl _) (by omega)]
-- the trial behind a copy
theorem cpB_at {g : S2} {t o : Nat} (hl : isLL t o) : ∀ {n : Nat}, n ≤ 6 → ∀ j k, j < n → 1 ≤ k → k < 7 → f_cpBs g t o n (t + 14 + j) k = g (o + 14 + j) k
  | 0, _, j, k, hj, _, _ => by omega
  | n + 1, hn, j, k, hj, h1, h7 => by
    unfold isLL at hl
    unfold f_cpBs f_cpB
    by_cases e : j = n
    · subst e
      have hs : f_cpBs g t o j (o + 14 + j) = g (o + 14 + j) := cpBs_n (by omega) (by omega)
      rcases (by omega : k = 1 ∨ k = 2 ∨ k = 3 ∨ k = 4 ∨ k = 5 ∨ k = 6) with rfl | rfl | rfl | rfl | rfl | rfl <;> simp [u2_app, hs]
    · rw [u2_n (by omega), u2_n (by omega), u2_n (by omega), u2_n (by omega), u2_n (by omega), u2_n (by omega)]
      exact cpB_at (by unfold isLL; omega) (by omega) j k (by omega) h1 h7
theorem cpB_0 {g : S2} {t o : Nat} : ∀ {n : Nat} {a : Nat}, f_cpBs g t o n a 0 = g a 0
  | 0, a => rfl
  | n + 1, a => by
    unfold f_cpBs f_cpB
    rw [u2_app, if_neg (by omega), u2_app, if_neg (by omega), u2_app, if_neg (by omega), u2_app, if_neg (by omega), u2_app, if_neg (by omega), u2_app, if_neg (by omega)]
    exact cpB_0
theorem cpP_at {g : S2} {t o : Nat} (hl : isLL t o) : ∀ {n : Nat}, n ≤ 50 → ∀ j k, j < n → k < 8 → f_cpPs g t o n (t + 20 + j) k = g (o + 20 + j) k
  | 0, _, j, k, hj, _ => by omega
  | n + 1, hn, j, k, hj, h7 => by
    unfold isLL at hl
    unfold f_cpPs f_cpP
    by_cases e : j = n
    · subst e
      have hs : f_cpPs g t o j (o + 20 + j) = g (o + 20 + j) := cpPs_n (by omega) (by omega)
      rcases (by omega : k = 0 ∨ k = 1 ∨ k = 2 ∨ k = 3 ∨ k = 4 ∨ k = 5 ∨ k = 6 ∨ k = 7) with rfl | rfl | rfl | rfl | rfl | rfl | rfl | rfl <;> simp [u2_app, hs]
    · rw [u2_n (by omega), u2_n (by omega), u2_n (by omega), u2_n (by omega), u2_n (by omega), u2_n (by omega), u2_n (by omega), u2_n (by omega)]
      exact cpP_at (by unfold isLL; omega) (by omega) j k (by omega) h7
theorem cpS_at {g : S2} {t o : Nat} (hl : isLL t o) : ∀ {n : Nat}, n ≤ 10 → ∀ j k, j < n → k < 3 → f_cpSs g t o n (t + 4 + j) k = g (o + 4 + j) k
  | 0, _, j, k, hj, _ => by omega
  | n + 1, hn, j, k, hj, h7 => by
    unfold isLL at hl
    unfold f_cpSs f_cpS
    by_cases e : j = n
    · subst e
      have hs : f_cpSs g t o j (o + 4 + j) = g (o + 4 + j) := cpSs_n (by omega) (by omega)
      rcases (by omega : k = 0 ∨ k = 1 ∨ k = 2) with rfl | rfl | rfl <;> simp [u2_app, hs]
    · rw [u2_n (by omega), u2_n (by omega), u2_n (by omega)]
      exact cpS_at (by unfold isLL; omega) (by omega) j k (by omega) h7
/-- what the copy holds -/
theorem copy_at {g : S2} {t o nb np : Nat} (hl : isLL t o) (hb : nb ≤ 6) (hp : np ≤ 50) :
    (∀ j k, j < 10 → k < 3 → f_copy g t o nb np (t + 4 + j) k = g (o + 4 + j) k) ∧ (∀ j k, j < nb → 1 ≤ k → k < 7 → f_copy g t o nb np (t + 14 + j) k = g (o + 14 + j) k) ∧ (∀ j k, j < np → k < 8 → f_copy g t o nb np (t + 20 + j) k = g (o + 20 + j) k) ∧
    (∀ j, j < 6 → f_copy g t o nb np (t + 14 + j) 0 = g (t + 14 + j) 0) ∧ (∀ k, 3 ≤ k → k < 7 → f_copy g t o nb np t k = g o k) := by
  have hl2 := hl
  unfold isLL at hl
  unfold f_copy
  refine ⟨fun j k hj hk => ?_, fun j k hj h1 hk => ?_, fun j k hj hk => ?_, fun j hj => ?_, fun k h3 hk => ?_⟩
  · rw [u2_n (by omega), u2_n (by omega), u2_n (by omega), u2_n (by omega), cpPs_n hp (by omega), cpBs_n hb (by omega)]
    exact cpS_at hl2 (Nat.le_refl _) j k hj hk
  · rw [u2_n (by omega), u2_n (by omega), u2_n (by omega), u2_n (by omega), cpPs_n hp (by omega), cpB_at hl2 hb j k hj h1 hk, cpSs_n (Nat.le_refl _) (by omega)]
  · rw [u2_n (by omega), u2_n (by omega), u2_n (by omega), u2_n (by omega), cpP_at hl2 hp j k hj hk, cpBs_n hb (by omega), cpSs_n (Nat.le_refl _) (by omega)]
  · rw [u2_n (by omega), u2_n (by omega), u2_n (by omega), u2_n (by omega), cpPs_n hp (by omega), cpB_0, cpSs_n (Nat.le_refl _) (by omega)]
  · rcases (by omega : k = 3 ∨ k = 4 ∨ k = 5 ∨ k = 6) with rfl | rfl | rfl | rfl <;> simp [u2_app]
theorem okl_copy {g : S2} {t o nb np : Nat} (hl : isLL t o) (h : OkL o nb np g) (hnum : ∀ j, j < 6 → g (t + 14 + j) 0 = nI j) : OkL t nb np (f_copy g t o nb np) := by
  obtain ⟨⟨a1, a2⟩, ⟨b1, b2⟩, c, d, e⟩ := h
  obtain ⟨h1, h2, h3, h4, h5⟩ := copy_at (g := g) (t := t) (o := o) hl a2 b2
  refine ⟨⟨by rw [h5 3 (by omega) (by omega)]; exact a1, a2⟩, ⟨by rw [h5 4 (by omega) (by omega)]; exact b1, b2⟩, fun j hj => by rw [h4 j hj]; exact hnum j hj, fun j hj => ?_, fun p hp => ?_⟩
  · rw [h2 j 1 hj (by omega) (by omega), h2 j 2 hj (by omega) (by omega)]; exact d j hj
  · rw [h3 p 1 hp (by omega), h3 p 2 hp (by omega), h3 p 7 hp (by omega)]; exact e p hp
/-- the trial's buses have their numbers -/
def NumT (g : S2) : Prop := ∀ j, j < 6 → g (71 + 14 + j) 0 = nI j
theorem LL71 : isLL 71 1 := Or.inr ⟨rfl, rfl⟩
/-- advise: trial, best, fewest behind n holds -/
def f_adv1 (nb np mm n : Nat) (r : S2 × Nat × Int32) : S2 × Nat × Int32 :=
  if n = 0 ∨ sumF (fun q => f_mins (u2 (f_copy r.1 71 1 nb np) 71 6 (nI n)) 71 nb np mm (71 + 20 + q) 5) np < r.2.2 then (f_mins (u2 (f_copy r.1 71 1 nb np) 71 6 (nI n)) 71 nb np mm, n, sumF (fun q => f_mins (u2 (f_copy r.1 71 1 nb np) 71 6 (nI n)) 71 nb np mm (71 + 20 + q) 5) np)
  else (f_mins (u2 (f_copy r.1 71 1 nb np) 71 6 (nI n)) 71 nb np mm, r.2)
def f_adv (g : S2) (nb np mm : Nat) : Nat → S2 × Nat × Int32
  | 0 => (g, 0, 0)
  | n + 1 => f_adv1 nb np mm n (f_adv g nb np mm n)
/-- what stays while the trial is used -/
def Kp (g g1 : S2) : Prop := ∀ a, Out 71 a → g1 a = g a
theorem Kp.ok {g g1 : S2} {nb np : Nat} (k : Kp g g1) (h : OkL 1 nb np g) : OkL 1 nb np g1 := okl_eq h (fun a h1 h2 => k a (Or.inl (by omega)))
theorem okl_num {o nb np : Nat} {g : S2} (h : OkL o nb np g) : ∀ j, j < 6 → g (o + 14 + j) 0 = nI j := h.2.2.1
theorem kp_copy {g g1 : S2} {nb np : Nat} (k : Kp g g1) (hb : nb ≤ 6) (hp : np ≤ 50) : Kp g (f_copy g1 71 1 nb np) := fun a ha => by rw [fr_copy ha hb hp]; exact k a ha
theorem kp_mins {g g1 : S2} {nb np n : Nat} (k : Kp g g1) (h : OkL 71 nb np g1) : Kp g (f_mins g1 71 nb np n) := fun a ha => by rw [fr_mins ha h]; exact k a ha
theorem kp_hold {g g1 : S2} {j : Nat} {x : Int32} (k : Kp g g1) : Kp g (u2 g1 71 j x) := fun a ha => by rw [u2_ne (by unfold Out at ha; omega)]; exact k a ha
theorem adv_ok {g : S2} {nb np mm : Nat} (h : OkL 1 nb np g) (hn : NumT g) : ∀ n, Kp g (f_adv g nb np mm n).1 ∧ NumT (f_adv g nb np mm n).1
  | 0 => ⟨fun _ _ => rfl, hn⟩
  | n + 1 => by
    obtain ⟨k, hN⟩ := adv_ok (mm := mm) h hn n
    have h1 := okl_copy LL71 (k.ok h) hN
    have h2 : OkL 71 nb np (u2 (f_copy (f_adv g nb np mm n).1 71 1 nb np) 71 6 (nI n)) := OkL.L h1 (by decide)
    have h3 := okl_mins h2 mm
    have hk : Kp g (f_mins (u2 (f_copy (f_adv g nb np mm n).1 71 1 nb np) 71 6 (nI n)) 71 nb np mm) := kp_mins (kp_hold (kp_copy k h.1.2 h.2.1.2)) h2
    unfold f_adv f_adv1
    split
    · exact ⟨hk, okl_num h3⟩
    · exact ⟨hk, okl_num h3⟩
end
section
/-! the checksum -/
def dig1 (d : Int64) (f : Nat → Int32) : Nat → Int64
  | 0 => d
  | n + 1 => dig1 d f n * 31 + (f n).toInt64
def dig2 (d : Int64) (F : Nat → Nat → Int32) (m : Nat) : Nat → Int64
  | 0 => d
  | n + 1 => dig1 (dig2 d F m n) (F n) m
def f_dig (g : S2) (nb np : Nat) : Int64 :=
  dig2 (dig2 (dig2 (dig1 1039 (f_tellC g 1 nb np) 10) (f_tellS g 1 nb np) 5 10) (fun j k => g (1 + 14 + j) (k + 1)) 6 nb) (fun p k => g (1 + 20 + p) (k + 0)) 7 np
theorem dig1_congr {d d' : Int64} {f f' : Nat → Int32} (hd : d = d') : ∀ {n : Nat}, (∀ k, k < n → f k = f' k) → dig1 d f n = dig1 d' f' n
  | 0, _ => hd
  | n + 1, h => by
    unfold dig1
    rw [dig1_congr hd (fun k hk => h k (by omega)), h n (by omega)]
theorem dig2_congr {d d' : Int64} {F F' : Nat → Nat → Int32} {m : Nat} (hd : d = d') : ∀ {n : Nat}, (∀ j k, j < n → k < m → F j k = F' j k) → dig2 d F m n = dig2 d' F' m n
  | 0, _ => hd
  | n + 1, h => by
    unfold dig2
    exact dig1_congr (dig2_congr hd (fun j k hj hk => h j k (by omega) hk)) (fun k hk => h n k (by omega) hk)
theorem dig1_0 {d : Int64} {f : Nat → Int32} : dig1 d f 0 = d := rfl
theorem dig2_0 {d : Int64} {F : Nat → Nat → Int32} {m : Nat} : dig2 d F m 0 = d := rfl
theorem dig1_s {d : Int64} {f : Nat → Int32} {n : Nat} : dig1 d f (n + 1) = dig1 d f n * 31 + (f n).toInt64 := rfl
theorem dig2_s {d : Int64} {F : Nat → Nat → Int32} {m n : Nat} : dig2 d F m (n + 1) = dig1 (dig2 d F m n) (F n) m := rfl
end
section
set_option maxHeartbeats 1000000 in
set_option maxRecDepth 100000 in
theorem metX2_waitsAt (l : Launch) (X : CX) (b : Nat) (w : Int64) (g : S2) {P : Nat} (hP : isP P) (k : Int32) : Met l yX2_waitsAt (wsg yX2_waitsAt cX2_waitsAt 2 (some .boolean)) ({ frames := 0, cells := 0, slots := 0, locals := 0 }) (Pre X b g w [.ref (b + P), .int k]) (QR (f_waits g P k)) 0 0 NO := by
  refine Met.ofW (cc := cX2_waitsAt) (maxL := 2) (ret := (some .boolean)) (by decide) rfl ?_
  intro p e s m args below meth c s₁ Bo hml hv
  obtain ⟨rfl, hW, hK⟩ := hv
  have hx := Bo.exec
  have hb := Bo.bytes
  have hr := Bo.returns
  have hts := hts_of (atoms_spec (ws := wsg yX2_waitsAt cX2_waitsAt 2 (some .boolean)) Bo.pre)
  have hown : s.vm.findClass RX2 = some m.cls := findClass_of_methodNamed Bo.named
  have hlocks := Bo.notSynchronized
  have hl := lv_entry ([.ref (b + P), .int k]) (n := 2) (Nat.le_of_ble_eq_true rfl)
  rw [lg_entry_eq]
  generalize (lg_sl ([.ref (b + P), .int k]) ++ List.replicate (2 - (lg_sl ([.ref (b + P), .int k])).length) Slot.unset).toArray = ls at hl ⊢
  have hl : lv_has ls 2 [(0, .ref (b + P)), (1, .int k)] := hl
  refine lv_aload_n hx hb dX2_waitsAt_0 rfl (lv_at hl 0 rfl) ?_
  refine w_get hx hb hts inX2 hown hK hW (ltP hP) (Ent_P hP) rfl 0 (by decide) q_399 (fun _ h => h) rfl dX2_waitsAt_1 ?_
  refine lv_if_ne (tgt := 19) hx hb dX2_waitsAt_4 (by decide) (fun c_1 => ?_) (fun c_1 => ?_)
  · refine lv_iconst (v := 0) hx hb dX2_waitsAt_19 (by decide) ?_
    exact W.zret (v := 0) hx hb hr (by decide) (fun t9 ht9 _ => ⟨congrArg (fun z => Outcome.returned (some (Value.int z))) (by simp_all [f_waits]), ht9⟩) (fun q hq => absurd hq List.not_mem_nil) dX2_waitsAt_20
  · refine lv_aload_n hx hb dX2_waitsAt_7 rfl (lv_at hl 0 rfl) ?_
    refine w_get hx hb hts inX2 hown hK hW (ltP hP) (Ent_P hP) rfl 1 (by decide) q_402 (fun _ h => h) rfl dX2_waitsAt_8 ?_
    refine lv_iload_n hx hb dX2_waitsAt_11 rfl (lv_at hl 1 rfl) ?_
    refine lv_icmp_ne (tgt := 19) hx hb dX2_waitsAt_12 (by decide) (fun c_2 => ?_) (fun c_2 => ?_)
    · refine lv_iconst (v := 0) hx hb dX2_waitsAt_19 (by decide) ?_
      exact W.zret (v := 0) hx hb hr (by decide) (fun t9 ht9 _ => ⟨congrArg (fun z => Outcome.returned (some (Value.int z))) (by simp_all [f_waits]), ht9⟩) (fun q hq => absurd hq List.not_mem_nil) dX2_waitsAt_20
    · refine lv_iconst (v := 1) hx hb dX2_waitsAt_15 (by decide) ?_
      refine lv_goto (tgt := 20) hx hb dX2_waitsAt_16 (by decide) ?_
      exact W.zret (v := 1) hx hb hr (by decide) (fun t9 ht9 _ => ⟨congrArg (fun z => Outcome.returned (some (Value.int z))) (by simp_all [f_waits]), ht9⟩) (fun q hq => absurd hq List.not_mem_nil) dX2_waitsAt_20

set_option maxHeartbeats 1000000 in
set_option maxRecDepth 100000 in
theorem metX2_leavesAt (l : Launch) (X : CX) (b : Nat) (w : Int64) (g : S2) {P B : Nat} (hP : isP P) (hB : isB B) (k : Int32) : Met l yX2_leavesAt (wsg yX2_leavesAt cX2_leavesAt 3 (some .boolean)) ({ frames := 0, cells := 0, slots := 0, locals := 0 }) (Pre X b g w [.ref (b + P), .int k, .ref (b + B)]) (QR (f_leaves g P B k)) 0 0 NO := by
  refine Met.ofW (cc := cX2_leavesAt) (maxL := 3) (ret := (some .boolean)) (by decide) rfl ?_
  intro p e s m args below meth c s₁ Bo hml hv
  obtain ⟨rfl, hW, hK⟩ := hv
  have hx := Bo.exec
  have hb := Bo.bytes
  have hr := Bo.returns
  have hts := hts_of (atoms_spec (ws := wsg yX2_leavesAt cX2_leavesAt 3 (some .boolean)) Bo.pre)
  have hown : s.vm.findClass RX2 = some m.cls := findClass_of_methodNamed Bo.named
  have hlocks := Bo.notSynchronized
  have hl := lv_entry ([.ref (b + P), .int k, .ref (b + B)]) (n := 3) (Nat.le_of_ble_eq_true rfl)
  rw [lg_entry_eq]
  generalize (lg_sl ([.ref (b + P), .int k, .ref (b + B)]) ++ List.replicate (3 - (lg_sl ([.ref (b + P), .int k, .ref (b + B)])).length) Slot.unset).toArray = ls at hl ⊢
  have hl : lv_has ls 3 [(0, .ref (b + P)), (1, .int k), (2, .ref (b + B))] := hl
  refine lv_aload_n hx hb dX2_leavesAt_0 rfl (lv_at hl 0 rfl) ?_
  refine w_get hx hb hts inX2 hown hK hW (ltP hP) (Ent_P hP) rfl 0 (by decide) q_399 (fun _ h => h) rfl dX2_leavesAt_1 ?_
  refine lv_iconst (v := 1) hx hb dX2_leavesAt_4 (by decide) ?_
  refine lv_icmp_ne (tgt := 31) hx hb dX2_leavesAt_5 (by decide) (fun c_1 => ?_) (fun c_1 => ?_)
  · refine lv_iconst (v := 0) hx hb dX2_leavesAt_31 (by decide) ?_
    exact W.zret (v := 0) hx hb hr (by decide) (fun t9 ht9 _ => ⟨congrArg (fun z => Outcome.returned (some (Value.int z))) (by simp_all [f_leaves]), ht9⟩) (fun q hq => absurd hq List.not_mem_nil) dX2_leavesAt_32
  · refine lv_aload_n hx hb dX2_leavesAt_8 rfl (lv_at hl 0 rfl) ?_
    refine w_get hx hb hts inX2 hown hK hW (ltP hP) (Ent_P hP) rfl 3 (by decide) q_407 (fun _ h => h) rfl dX2_leavesAt_9 ?_
    refine lv_aload_n hx hb dX2_leavesAt_12 rfl (lv_at hl 2 rfl) ?_
    refine w_get hx hb hts inX0 hown hK hW (ltB hB) (Ent_B hB) rfl 0 (by decide) q_365 (fun _ h => h) rfl dX2_leavesAt_13 ?_
    refine lv_icmp_ne (tgt := 31) hx hb dX2_leavesAt_16 (by decide) (fun c_2 => ?_) (fun c_2 => ?_)
    · refine lv_iconst (v := 0) hx hb dX2_leavesAt_31 (by decide) ?_
      exact W.zret (v := 0) hx hb hr (by decide) (fun t9 ht9 _ => ⟨congrArg (fun z => Outcome.returned (some (Value.int z))) (by simp_all [f_leaves]), ht9⟩) (fun q hq => absurd hq List.not_mem_nil) dX2_leavesAt_32
    · refine lv_aload_n hx hb dX2_leavesAt_19 rfl (lv_at hl 0 rfl) ?_
      refine w_get hx hb hts inX2 hown hK hW (ltP hP) (Ent_P hP) rfl 2 (by decide) q_405 (fun _ h => h) rfl dX2_leavesAt_20 ?_
      refine lv_iload_n hx hb dX2_leavesAt_23 rfl (lv_at hl 1 rfl) ?_
      refine lv_icmp_ne (tgt := 31) hx hb dX2_leavesAt_24 (by decide) (fun c_3 => ?_) (fun c_3 => ?_)
      · refine lv_iconst (v := 0) hx hb dX2_leavesAt_31 (by decide) ?_
        exact W.zret (v := 0) hx hb hr (by decide) (fun t9 ht9 _ => ⟨congrArg (fun z => Outcome.returned (some (Value.int z))) (by simp_all [f_leaves]), ht9⟩) (fun q hq => absurd hq List.not_mem_nil) dX2_leavesAt_32
      · refine lv_iconst (v := 1) hx hb dX2_leavesAt_27 (by decide) ?_
        refine lv_goto (tgt := 32) hx hb dX2_leavesAt_28 (by decide) ?_
        exact W.zret (v := 1) hx hb hr (by decide) (fun t9 ht9 _ => ⟨congrArg (fun z => Outcome.returned (some (Value.int z))) (by simp_all [f_leaves]), ht9⟩) (fun q hq => absurd hq List.not_mem_nil) dX2_leavesAt_32

set_option maxHeartbeats 1000000 in
set_option maxRecDepth 100000 in
theorem metX3_letsLeave (l : Launch) (X : CX) (b : Nat) (w : Int64) (g : S2) {P : Nat} (hP : isS P) (t h : Int32) : Met l yX3_letsLeave (wsg yX3_letsLeave cX3_letsLeave 3 (some .boolean)) ({ frames := 0, cells := 0, slots := 0, locals := 0 }) (Pre X b g w [.ref (b + P), .int t, .int h]) (QR (f_lets g P t h)) 0 0 NO := by
  refine Met.ofW (cc := cX3_letsLeave) (maxL := 3) (ret := (some .boolean)) (by decide) rfl ?_
  intro p e s m args below meth c s₁ Bo hml hv
  obtain ⟨rfl, hW, hK⟩ := hv
  have hx := Bo.exec
  have hb := Bo.bytes
  have hr := Bo.returns
  have hts := hts_of (atoms_spec (ws := wsg yX3_letsLeave cX3_letsLeave 3 (some .boolean)) Bo.pre)
  have hown : s.vm.findClass RX3 = some m.cls := findClass_of_methodNamed Bo.named
  have hlocks := Bo.notSynchronized
  have hl := lv_entry ([.ref (b + P), .int t, .int h]) (n := 3) (Nat.le_of_ble_eq_true rfl)
  rw [lg_entry_eq]
  generalize (lg_sl ([.ref (b + P), .int t, .int h]) ++ List.replicate (3 - (lg_sl ([.ref (b + P), .int t, .int h])).length) Slot.unset).toArray = ls at hl ⊢
  have hl : lv_has ls 3 [(0, .ref (b + P)), (1, .int t), (2, .int h)] := hl
  refine lv_iload_n hx hb dX3_letsLeave_0 rfl (lv_at hl 2 rfl) ?_
  refine lv_if_eq (tgt := 22) hx hb dX3_letsLeave_1 (by decide) (fun c_1 => ?_) (fun c_1 => ?_)
  · refine lv_iconst (v := 1) hx hb dX3_letsLeave_22 (by decide) ?_
    refine lv_goto (tgt := 27) hx hb dX3_letsLeave_23 (by decide) ?_
    exact W.zret (v := 1) hx hb hr (by decide) (fun t9 ht9 _ => ⟨congrArg (fun z => Outcome.returned (some (Value.int z))) (by simp_all [f_lets]), ht9⟩) (fun q hq => absurd hq List.not_mem_nil) dX3_letsLeave_27
  · refine lv_aload_n hx hb dX3_letsLeave_4 rfl (lv_at hl 0 rfl) ?_
    refine w_get hx hb hts inX3 hown hK hW (ltS hP) (Ent_S hP) rfl 2 (by decide) q_350 (fun _ h => h) rfl dX3_letsLeave_5 ?_
    refine lv_iconst (v := -1) hx hb dX3_letsLeave_8 (by decide) ?_
    refine lv_icmp_eq (tgt := 22) hx hb dX3_letsLeave_9 (by decide) (fun c_2 => ?_) (fun c_2 => ?_)
    · refine lv_iconst (v := 1) hx hb dX3_letsLeave_22 (by decide) ?_
      refine lv_goto (tgt := 27) hx hb dX3_letsLeave_23 (by decide) ?_
      exact W.zret (v := 1) hx hb hr (by decide) (fun t9 ht9 _ => ⟨congrArg (fun z => Outcome.returned (some (Value.int z))) (by simp_all [f_lets]), ht9⟩) (fun q hq => absurd hq List.not_mem_nil) dX3_letsLeave_27
    · refine lv_iload_n hx hb dX3_letsLeave_12 rfl (lv_at hl 1 rfl) ?_
      refine lv_aload_n hx hb dX3_letsLeave_13 rfl (lv_at hl 0 rfl) ?_
      refine w_get hx hb hts inX3 hown hK hW (ltS hP) (Ent_S hP) rfl 2 (by decide) q_350 (fun _ h => h) rfl dX3_letsLeave_14 ?_
      refine lv_isub hx hb dX3_letsLeave_17 ?_
      refine lv_iload_n hx hb dX3_letsLeave_18 rfl (lv_at hl 2 rfl) ?_
      refine lv_icmp_lt (tgt := 26) hx hb dX3_letsLeave_19 (by decide) (fun c_3 => ?_) (fun c_3 => ?_)
      · refine lv_iconst (v := 0) hx hb dX3_letsLeave_26 (by decide) ?_
        exact W.zret (v := 0) hx hb hr (by decide) (fun t9 ht9 _ => ⟨congrArg (fun z => Outcome.returned (some (Value.int z))) (by simp_all [f_lets]), ht9⟩) (fun q hq => absurd hq List.not_mem_nil) dX3_letsLeave_27
      · refine lv_iconst (v := 1) hx hb dX3_letsLeave_22 (by decide) ?_
        refine lv_goto (tgt := 27) hx hb dX3_letsLeave_23 (by decide) ?_
        exact W.zret (v := 1) hx hb hr (by decide) (fun t9 ht9 _ => ⟨congrArg (fun z => Outcome.returned (some (Value.int z))) (by simp_all [f_lets]), ht9⟩) (fun q hq => absurd hq List.not_mem_nil) dX3_letsLeave_27

set_option maxHeartbeats 1000000 in
set_option maxRecDepth 100000 in
theorem metX0_isBunchedWith (l : Launch) (X : CX) (b : Nat) (w : Int64) (g : S2) {P B : Nat} (hP : isB P) (hB : isB B) : Met l yX0_isBunchedWith (wsg yX0_isBunchedWith cX0_isBunchedWith 2 (some .boolean)) ({ frames := 0, cells := 0, slots := 0, locals := 0 }) (Pre X b g w [.ref (b + P), .ref (b + B)]) (QR (f_bunch g P B)) 0 0 NO := by
  refine Met.ofW (cc := cX0_isBunchedWith) (maxL := 2) (ret := (some .boolean)) (by decide) rfl ?_
  intro p e s m args below meth c s₁ Bo hml hv
  obtain ⟨rfl, hW, hK⟩ := hv
  have hx := Bo.exec
  have hb := Bo.bytes
  have hr := Bo.returns
  have hts := hts_of (atoms_spec (ws := wsg yX0_isBunchedWith cX0_isBunchedWith 2 (some .boolean)) Bo.pre)
  have hown : s.vm.findClass RX0 = some m.cls := findClass_of_methodNamed Bo.named
  have hlocks := Bo.notSynchronized
  have hl := lv_entry ([.ref (b + P), .ref (b + B)]) (n := 2) (Nat.le_of_ble_eq_true rfl)
  rw [lg_entry_eq]
  generalize (lg_sl ([.ref (b + P), .ref (b + B)]) ++ List.replicate (2 - (lg_sl ([.ref (b + P), .ref (b + B)])).length) Slot.unset).toArray = ls at hl ⊢
  have hl : lv_has ls 2 [(0, .ref (b + P)), (1, .ref (b + B))] := hl
  refine lv_aload_n hx hb dX0_isBunchedWith_0 rfl (lv_at hl 0 rfl) ?_
  refine w_get hx hb hts inX0 hown hK hW (ltB hP) (Ent_B hP) rfl 1 (by decide) q_367 (fun _ h => h) rfl dX0_isBunchedWith_1 ?_
  refine lv_aload_n hx hb dX0_isBunchedWith_4 rfl (lv_at hl 1 rfl) ?_
  refine w_get hx hb hts inX0 hown hK hW (ltB hB) (Ent_B hB) rfl 1 (by decide) q_367 (fun _ h => h) rfl dX0_isBunchedWith_5 ?_
  refine lv_icmp_ne (tgt := 26) hx hb dX0_isBunchedWith_8 (by decide) (fun c_1 => ?_) (fun c_1 => ?_)
  · refine lv_iconst (v := 0) hx hb dX0_isBunchedWith_26 (by decide) ?_
    exact W.zret (v := 0) hx hb hr (by decide) (fun t9 ht9 _ => ⟨congrArg (fun z => Outcome.returned (some (Value.int z))) (by simp_all [f_bunch]), ht9⟩) (fun q hq => absurd hq List.not_mem_nil) dX0_isBunchedWith_27
  · refine lv_aload_n hx hb dX0_isBunchedWith_11 rfl (lv_at hl 0 rfl) ?_
    refine w_get hx hb hts inX0 hown hK hW (ltB hP) (Ent_B hP) rfl 2 (by decide) q_369 (fun _ h => h) rfl dX0_isBunchedWith_12 ?_
    refine lv_aload_n hx hb dX0_isBunchedWith_15 rfl (lv_at hl 1 rfl) ?_
    refine w_get hx hb hts inX0 hown hK hW (ltB hB) (Ent_B hB) rfl 2 (by decide) q_369 (fun _ h => h) rfl dX0_isBunchedWith_16 ?_
    refine lv_icmp_ne (tgt := 26) hx hb dX0_isBunchedWith_19 (by decide) (fun c_2 => ?_) (fun c_2 => ?_)
    · refine lv_iconst (v := 0) hx hb dX0_isBunchedWith_26 (by decide) ?_
      exact W.zret (v := 0) hx hb hr (by decide) (fun t9 ht9 _ => ⟨congrArg (fun z => Outcome.returned (some (Value.int z))) (by simp_all [f_bunch]), ht9⟩) (fun q hq => absurd hq List.not_mem_nil) dX0_isBunchedWith_27
    · refine lv_iconst (v := 1) hx hb dX0_isBunchedWith_22 (by decide) ?_
      refine lv_goto (tgt := 27) hx hb dX0_isBunchedWith_23 (by decide) ?_
      exact W.zret (v := 1) hx hb hr (by decide) (fun t9 ht9 _ => ⟨congrArg (fun z => Outcome.returned (some (Value.int z))) (by simp_all [f_bunch]), ht9⟩) (fun q hq => absurd hq List.not_mem_nil) dX0_isBunchedWith_27

set_option maxHeartbeats 1000000 in
set_option maxRecDepth 100000 in
theorem metX2_getOff (l : Launch) (X : CX) (b : Nat) (w : Int64) (g : S2) {P : Nat} (hP : isP P) (t : Int32) : Met l yX2_getOff (wsg yX2_getOff cX2_getOff 2 none) ({ frames := 0, cells := 0, slots := 0, locals := 0 }) (Pre X b g w [.ref (b + P), .int t]) (Qv X b w (fun g1 : S2 => g1 = f_off g P t)) 0 0 (AA b) := by
  refine Met.ofW (cc := cX2_getOff) (maxL := 2) (ret := none) (by decide) rfl ?_
  intro p e s m args below meth c s₁ Bo hml hv
  obtain ⟨rfl, hW, hK⟩ := hv
  have hx := Bo.exec
  have hb := Bo.bytes
  have hr := Bo.returns
  have hts := hts_of (atoms_spec (ws := wsg yX2_getOff cX2_getOff 2 none) Bo.pre)
  have hown : s.vm.findClass RX2 = some m.cls := findClass_of_methodNamed Bo.named
  have hlocks := Bo.notSynchronized
  have hS : va_S (AA b) s.heap s.heap [] := va_S.rf
  have hl := lv_entry ([.ref (b + P), .int t]) (n := 2) (Nat.le_of_ble_eq_true rfl)
  rw [lg_entry_eq]
  generalize (lg_sl ([.ref (b + P), .int t]) ++ List.replicate (2 - (lg_sl ([.ref (b + P), .int t])).length) Slot.unset).toArray = ls at hl ⊢
  have hl : lv_has ls 2 [(0, .ref (b + P)), (1, .int t)] := hl
  refine lv_aload_n hx hb dX2_getOff_0 rfl (lv_at hl 0 rfl) ?_
  refine lv_iconst (v := 2) hx hb dX2_getOff_1 (by decide) ?_
  refine w_put hx hb hts inX2 tyX2 tyX2_ok nmX2 hown hK hW hS (ltP hP) (Ent_P hP) rfl 0 (by decide) q_399 (fun _ h => h) rfl rfl rfl (Nat.le_of_ble_eq_true rfl) (setP hP (by decide)) dX2_getOff_2 (fun H locs hW hS => ?_)
  refine lv_aload_n hx hb dX2_getOff_5 rfl (lv_at hl 0 rfl) ?_
  refine lv_aload_n hx hb dX2_getOff_6 rfl (lv_at hl 0 rfl) ?_
  refine w_get hx hb hts inX2 hown hK hW (ltP hP) (Ent_P hP) rfl 2 (by decide) q_405 (fun _ h => h) (v := .int (g P 2)) (congrArg (fun z => some (Value.int z)) (by simp [u2_app])) dX2_getOff_7 ?_
  refine w_put hx hb hts inX2 tyX2 tyX2_ok nmX2 hown hK hW hS (ltP hP) (Ent_P hP) rfl 1 (by decide) q_402 (fun _ h => h) rfl rfl rfl (Nat.le_of_ble_eq_true rfl) (setP hP (by decide)) dX2_getOff_10 (fun H locs hW hS => ?_)
  refine lv_aload_n hx hb dX2_getOff_13 rfl (lv_at hl 0 rfl) ?_
  refine lv_iconst (v := -1) hx hb dX2_getOff_14 (by decide) ?_
  refine w_put hx hb hts inX2 tyX2 tyX2_ok nmX2 hown hK hW hS (ltP hP) (Ent_P hP) rfl 3 (by decide) q_407 (fun _ h => h) rfl rfl rfl (Nat.le_of_ble_eq_true rfl) (setP hP (by decide)) dX2_getOff_15 (fun H locs hW hS => ?_)
  refine lv_aload_n hx hb dX2_getOff_18 rfl (lv_at hl 0 rfl) ?_
  refine lv_iload_n hx hb dX2_getOff_19 rfl (lv_at hl 1 rfl) ?_
  refine w_put hx hb hts inX2 tyX2 tyX2_ok nmX2 hown hK hW hS (ltP hP) (Ent_P hP) rfl 6 (by decide) q_412 (fun _ h => h) rfl rfl rfl (Nat.le_of_ble_eq_true rfl) (setP hP (by decide)) dX2_getOff_20 (fun H locs hW hS => ?_)
  exact W.vret hx hb hr (fun t9 ht9 _ => ⟨⟨(u2 (u2 (u2 (u2 g P 0 2) P 1 (g P 2)) P 3 (-1)) P 6 t), rfl, rfl, by show wd X b _ w t9.heap; rw [ht9]; exact hW⟩, hS.F ht9⟩) hS.2.2 dX2_getOff_23

set_option maxHeartbeats 1000000 in
set_option maxRecDepth 100000 in
theorem metX2_getOn (l : Launch) (X : CX) (b : Nat) (w : Int64) (g : S2) {P B : Nat} (hP : isP P) (hB : isB B) (hPB : P ≠ B) (full : Int32) : Met l yX2_getOn (wsg yX2_getOn cX2_getOn 4 (some .int)) ({ frames := 0, cells := 0, slots := 0, locals := 0 }) (Pre X b g w [.ref (b + P), .ref (b + B), .int full]) (Qi X b w (fun (r : Int32) (g1 : S2) => r = f_price g P full ∧ g1 = f_on g P B full)) 0 0 (AA b) := by
  refine Met.ofW (cc := cX2_getOn) (maxL := 4) (ret := (some .int)) (by decide) rfl ?_
  intro p e s m args below meth c s₁ Bo hml hv
  obtain ⟨rfl, hW, hK⟩ := hv
  have hx := Bo.exec
  have hb := Bo.bytes
  have hr := Bo.returns
  have hts := hts_of (atoms_spec (ws := wsg yX2_getOn cX2_getOn 4 (some .int)) Bo.pre)
  have hown : s.vm.findClass RX2 = some m.cls := findClass_of_methodNamed Bo.named
  have hlocks := Bo.notSynchronized
  have hS : va_S (AA b) s.heap s.heap [] := va_S.rf
  have hl := lv_entry ([.ref (b + P), .ref (b + B), .int full]) (n := 4) (Nat.le_of_ble_eq_true rfl)
  rw [lg_entry_eq]
  generalize (lg_sl ([.ref (b + P), .ref (b + B), .int full]) ++ List.replicate (4 - (lg_sl ([.ref (b + P), .ref (b + B), .int full])).length) Slot.unset).toArray = ls at hl ⊢
  have hl : lv_has ls 4 [(0, .ref (b + P)), (1, .ref (b + B)), (2, .int full)] := hl
  refine lv_aload_n hx hb dX2_getOn_0 rfl (lv_at hl 0 rfl) ?_
  refine w_get hx hb hts inX2 hown hK hW (ltP hP) (Ent_P hP) rfl 7 (by decide) q_413 (fun _ h => h) rfl dX2_getOn_1 ?_
  refine lv_if_eq (tgt := 13) hx hb dX2_getOn_4 (by decide) (fun c_1 => ?_) (fun c_1 => ?_)
  · refine lv_iload_n hx hb dX2_getOn_13 rfl (lv_at hl 2 rfl) ?_
    refine lv_istore_n (lv' := [(3, .int full), (0, .ref (b + P)), (1, .ref (b + B)), (2, .int full)]) hx hb dX2_getOn_14 rfl hl (by decide) rfl (fun ls hl => ?_)
    refine lv_aload_n hx hb dX2_getOn_15 rfl (lv_at hl 1 rfl) ?_
    refine lv_iconst (v := 0) hx hb dX2_getOn_16 (by decide) ?_
    refine w_put hx hb hts inX2 tyX2 tyX2_ok nmX2 hown hK hW hS (ltP hP) (Ent_P hP) rfl 7 (by decide) q_413 (fun _ h => h) rfl (by decide) (by decide) (Nat.le_of_ble_eq_true rfl) (setP hP (by decide)) dX2_getOn_17 (fun H locs hW hS => ?_)
    refine lv_aload_n hx hb dX2_getOn_20 rfl (lv_at hl 1 rfl) ?_
    refine lv_iconst (v := 1) hx hb dX2_getOn_21 (by decide) ?_
    refine w_put hx hb hts inX2 tyX2 tyX2_ok nmX2 hown hK hW hS (ltP hP) (Ent_P hP) rfl 0 (by decide) q_399 (fun _ h => h) rfl rfl rfl (Nat.le_of_ble_eq_true rfl) (setP hP (by decide)) dX2_getOn_22 (fun H locs hW hS => ?_)
    refine lv_aload_n hx hb dX2_getOn_25 rfl (lv_at hl 1 rfl) ?_
    refine lv_aload_n hx hb dX2_getOn_26 rfl (lv_at hl 2 rfl) ?_
    refine w_get hx hb hts inX0 hown hK hW (ltB hB) (Ent_B hB) rfl 0 (by decide) q_365 (fun _ h => h) rfl dX2_getOn_27 ?_
    refine w_put hx hb hts inX2 tyX2 tyX2_ok nmX2 hown hK hW hS (ltP hP) (Ent_P hP) rfl 3 (by decide) q_407 (fun _ h => h) rfl rfl rfl (Nat.le_of_ble_eq_true rfl) (setP hP (by decide)) dX2_getOn_30 (fun H locs hW hS => ?_)
    refine lv_aload_n hx hb dX2_getOn_33 rfl (lv_at hl 1 rfl) ?_
    refine lv_dup hx hb dX2_getOn_34 rfl ?_
    refine w_get hx hb hts inX2 hown hK hW (ltP hP) (Ent_P hP) rfl 4 (by decide) q_408 (fun _ h => h) (v := .int (g P 4)) (congrArg (fun z => some (Value.int z)) (by simp [u2_app])) dX2_getOn_35 ?_
    refine lv_iload_n hx hb dX2_getOn_38 rfl (lv_at hl 0 rfl) ?_
    refine lv_iadd hx hb dX2_getOn_39 ?_
    refine w_put hx hb hts inX2 tyX2 tyX2_ok nmX2 hown hK hW hS (ltP hP) (Ent_P hP) rfl 4 (by decide) q_408 (fun _ h => h) rfl rfl rfl (Nat.le_of_ble_eq_true rfl) (setP hP (by decide)) dX2_getOn_40 (fun H locs hW hS => ?_)
    refine lv_iload_n hx hb dX2_getOn_43 rfl (lv_at hl 0 rfl) ?_
    exact W.iret (v := full) hx hb hr (fun t9 ht9 _ => ⟨⟨full, (u2 (u2 (u2 (u2 g P 7 0) P 0 1) P 3 ((u2 (u2 g P 7 0) P 0 1) B 0)) P 4 ((g P 4) + full)), rfl, ⟨(by simp_all [f_price]), (by simp_all [f_price, f_on, u2_app, Ne.symm])⟩, by show wd X b _ w t9.heap; rw [ht9]; exact hW⟩, hS.F ht9⟩) hS.2.2 dX2_getOn_44
  · refine lv_iload_n hx hb dX2_getOn_7 rfl (lv_at hl 2 rfl) ?_
    refine lv_iconst (v := 2) hx hb dX2_getOn_8 (by decide) ?_
    refine lv_idiv hx hb dX2_getOn_9 (by decide) ?_
    refine lv_goto (tgt := 14) hx hb dX2_getOn_10 (by decide) ?_
    refine lv_istore_n (lv' := [(3, .int (full / 2)), (0, .ref (b + P)), (1, .ref (b + B)), (2, .int full)]) hx hb dX2_getOn_14 rfl hl (by decide) rfl (fun ls hl => ?_)
    refine lv_aload_n hx hb dX2_getOn_15 rfl (lv_at hl 1 rfl) ?_
    refine lv_iconst (v := 0) hx hb dX2_getOn_16 (by decide) ?_
    refine w_put hx hb hts inX2 tyX2 tyX2_ok nmX2 hown hK hW hS (ltP hP) (Ent_P hP) rfl 7 (by decide) q_413 (fun _ h => h) rfl (by decide) (by decide) (Nat.le_of_ble_eq_true rfl) (setP hP (by decide)) dX2_getOn_17 (fun H locs hW hS => ?_)
    refine lv_aload_n hx hb dX2_getOn_20 rfl (lv_at hl 1 rfl) ?_
    refine lv_iconst (v := 1) hx hb dX2_getOn_21 (by decide) ?_
    refine w_put hx hb hts inX2 tyX2 tyX2_ok nmX2 hown hK hW hS (ltP hP) (Ent_P hP) rfl 0 (by decide) q_399 (fun _ h => h) rfl rfl rfl (Nat.le_of_ble_eq_true rfl) (setP hP (by decide)) dX2_getOn_22 (fun H locs hW hS => ?_)
    refine lv_aload_n hx hb dX2_getOn_25 rfl (lv_at hl 1 rfl) ?_
    refine lv_aload_n hx hb dX2_getOn_26 rfl (lv_at hl 2 rfl) ?_
    refine w_get hx hb hts inX0 hown hK hW (ltB hB) (Ent_B hB) rfl 0 (by decide) q_365 (fun _ h => h) rfl dX2_getOn_27 ?_
    refine w_put hx hb hts inX2 tyX2 tyX2_ok nmX2 hown hK hW hS (ltP hP) (Ent_P hP) rfl 3 (by decide) q_407 (fun _ h => h) rfl rfl rfl (Nat.le_of_ble_eq_true rfl) (setP hP (by decide)) dX2_getOn_30 (fun H locs hW hS => ?_)
    refine lv_aload_n hx hb dX2_getOn_33 rfl (lv_at hl 1 rfl) ?_
    refine lv_dup hx hb dX2_getOn_34 rfl ?_
    refine w_get hx hb hts inX2 hown hK hW (ltP hP) (Ent_P hP) rfl 4 (by decide) q_408 (fun _ h => h) (v := .int (g P 4)) (congrArg (fun z => some (Value.int z)) (by simp [u2_app])) dX2_getOn_35 ?_
    refine lv_iload_n hx hb dX2_getOn_38 rfl (lv_at hl 0 rfl) ?_
    refine lv_iadd hx hb dX2_getOn_39 ?_
    refine w_put hx hb hts inX2 tyX2 tyX2_ok nmX2 hown hK hW hS (ltP hP) (Ent_P hP) rfl 4 (by decide) q_408 (fun _ h => h) rfl rfl rfl (Nat.le_of_ble_eq_true rfl) (setP hP (by decide)) dX2_getOn_40 (fun H locs hW hS => ?_)
    refine lv_iload_n hx hb dX2_getOn_43 rfl (lv_at hl 0 rfl) ?_
    exact W.iret (v := full / 2) hx hb hr (fun t9 ht9 _ => ⟨⟨full / 2, (u2 (u2 (u2 (u2 g P 7 0) P 0 1) P 3 ((u2 (u2 g P 7 0) P 0 1) B 0)) P 4 ((g P 4) + (full / 2))), rfl, ⟨(by simp_all [f_price]), (by simp_all [f_price, f_on, u2_app, Ne.symm])⟩, by show wd X b _ w t9.heap; rw [ht9]; exact hW⟩, hS.F ht9⟩) hS.2.2 dX2_getOn_44

set_option maxHeartbeats 1000000 in
set_option maxRecDepth 100000 in
theorem metX2_waitAgain (l : Launch) (X : CX) (b : Nat) (w : Int64) (g : S2) {P : Nat} (hP : isP P) (to t : Int32) : Met l yX2_waitAgain (wsg yX2_waitAgain cX2_waitAgain 3 none) ({ frames := 0, cells := 0, slots := 0, locals := 0 }) (Pre X b g w [.ref (b + P), .int to, .int t]) (Qv X b w (fun g1 : S2 => g1 = f_again g P to t)) 0 0 (AA b) := by
  refine Met.ofW (cc := cX2_waitAgain) (maxL := 3) (ret := none) (by decide) rfl ?_
  intro p e s m args below meth c s₁ Bo hml hv
  obtain ⟨rfl, hW, hK⟩ := hv
  have hx := Bo.exec
  have hb := Bo.bytes
  have hr := Bo.returns
  have hts := hts_of (atoms_spec (ws := wsg yX2_waitAgain cX2_waitAgain 3 none) Bo.pre)
  have hown : s.vm.findClass RX2 = some m.cls := findClass_of_methodNamed Bo.named
  have hlocks := Bo.notSynchronized
  have hS : va_S (AA b) s.heap s.heap [] := va_S.rf
  have hl := lv_entry ([.ref (b + P), .int to, .int t]) (n := 3) (Nat.le_of_ble_eq_true rfl)
  rw [lg_entry_eq]
  generalize (lg_sl ([.ref (b + P), .int to, .int t]) ++ List.replicate (3 - (lg_sl ([.ref (b + P), .int to, .int t])).length) Slot.unset).toArray = ls at hl ⊢
  have hl : lv_has ls 3 [(0, .ref (b + P)), (1, .int to), (2, .int t)] := hl
  refine lv_aload_n hx hb dX2_waitAgain_0 rfl (lv_at hl 0 rfl) ?_
  refine lv_iload_n hx hb dX2_waitAgain_1 rfl (lv_at hl 2 rfl) ?_
  refine lv_aload_n hx hb dX2_waitAgain_2 rfl (lv_at hl 0 rfl) ?_
  refine w_get hx hb hts inX2 hown hK hW (ltP hP) (Ent_P hP) rfl 6 (by decide) q_412 (fun _ h => h) rfl dX2_waitAgain_3 ?_
  refine lv_isub hx hb dX2_waitAgain_6 ?_
  refine lv_bipush (v := 20) hx hb dX2_waitAgain_7 (by decide) ?_
  refine lv_icmp_gt (tgt := 16) hx hb dX2_waitAgain_9 (by decide) (fun c_1 => ?_) (fun c_1 => ?_)
  · refine lv_iconst (v := 0) hx hb dX2_waitAgain_16 (by decide) ?_
    refine w_put hx hb hts inX2 tyX2 tyX2_ok nmX2 hown hK hW hS (ltP hP) (Ent_P hP) rfl 7 (by decide) q_413 (fun _ h => h) rfl (by decide) (by decide) (Nat.le_of_ble_eq_true rfl) (setP hP (by decide)) dX2_waitAgain_17 (fun H locs hW hS => ?_)
    refine lv_aload_n hx hb dX2_waitAgain_20 rfl (lv_at hl 0 rfl) ?_
    refine lv_iconst (v := 0) hx hb dX2_waitAgain_21 (by decide) ?_
    refine w_put hx hb hts inX2 tyX2 tyX2_ok nmX2 hown hK hW hS (ltP hP) (Ent_P hP) rfl 0 (by decide) q_399 (fun _ h => h) rfl rfl rfl (Nat.le_of_ble_eq_true rfl) (setP hP (by decide)) dX2_waitAgain_22 (fun H locs hW hS => ?_)
    refine lv_aload_n hx hb dX2_waitAgain_25 rfl (lv_at hl 0 rfl) ?_
    refine lv_iload_n hx hb dX2_waitAgain_26 rfl (lv_at hl 1 rfl) ?_
    refine w_put hx hb hts inX2 tyX2 tyX2_ok nmX2 hown hK hW hS (ltP hP) (Ent_P hP) rfl 2 (by decide) q_405 (fun _ h => h) rfl rfl rfl (Nat.le_of_ble_eq_true rfl) (setP hP (by decide)) dX2_waitAgain_27 (fun H locs hW hS => ?_)
    exact W.vret hx hb hr (fun t9 ht9 _ => ⟨⟨(u2 (u2 (u2 g P 7 0) P 0 0) P 2 to), rfl, (by unfold f_again; first | rw [if_pos c_1] | rw [if_neg c_1]), by show wd X b _ w t9.heap; rw [ht9]; exact hW⟩, hS.F ht9⟩) hS.2.2 dX2_waitAgain_30
  · refine lv_iconst (v := 1) hx hb dX2_waitAgain_12 (by decide) ?_
    refine lv_goto (tgt := 17) hx hb dX2_waitAgain_13 (by decide) ?_
    refine w_put hx hb hts inX2 tyX2 tyX2_ok nmX2 hown hK hW hS (ltP hP) (Ent_P hP) rfl 7 (by decide) q_413 (fun _ h => h) rfl (by decide) (by decide) (Nat.le_of_ble_eq_true rfl) (setP hP (by decide)) dX2_waitAgain_17 (fun H locs hW hS => ?_)
    refine lv_aload_n hx hb dX2_waitAgain_20 rfl (lv_at hl 0 rfl) ?_
    refine lv_iconst (v := 0) hx hb dX2_waitAgain_21 (by decide) ?_
    refine w_put hx hb hts inX2 tyX2 tyX2_ok nmX2 hown hK hW hS (ltP hP) (Ent_P hP) rfl 0 (by decide) q_399 (fun _ h => h) rfl rfl rfl (Nat.le_of_ble_eq_true rfl) (setP hP (by decide)) dX2_waitAgain_22 (fun H locs hW hS => ?_)
    refine lv_aload_n hx hb dX2_waitAgain_25 rfl (lv_at hl 0 rfl) ?_
    refine lv_iload_n hx hb dX2_waitAgain_26 rfl (lv_at hl 1 rfl) ?_
    refine w_put hx hb hts inX2 tyX2 tyX2_ok nmX2 hown hK hW hS (ltP hP) (Ent_P hP) rfl 2 (by decide) q_405 (fun _ h => h) rfl rfl rfl (Nat.le_of_ble_eq_true rfl) (setP hP (by decide)) dX2_waitAgain_27 (fun H locs hW hS => ?_)
    exact W.vret hx hb hr (fun t9 ht9 _ => ⟨⟨(u2 (u2 (u2 g P 7 1) P 0 0) P 2 to), rfl, (by unfold f_again; first | rw [if_pos c_1] | rw [if_neg c_1]), by show wd X b _ w t9.heap; rw [ht9]; exact hW⟩, hS.F ht9⟩) hS.2.2 dX2_waitAgain_30

set_option maxHeartbeats 1000000 in
set_option maxRecDepth 100000 in
theorem metX2_copyFrom (l : Launch) (X : CX) (b : Nat) (w : Int64) (g : S2) {P B : Nat} (hP : isP P) (hB : isP B) (hPB : B ≠ P) (h7 : g B 7 = 0 ∨ g B 7 = 1) : Met l yX2_copyFrom (wsg yX2_copyFrom cX2_copyFrom 2 none) ({ frames := 0, cells := 0, slots := 0, locals := 0 }) (Pre X b g w [.ref (b + P), .ref (b + B)]) (Qv X b w (fun g1 : S2 => g1 = f_cpP g P B)) 0 0 (AA b) := by
  refine Met.ofW (cc := cX2_copyFrom) (maxL := 2) (ret := none) (by decide) rfl ?_
  intro p e s m args below meth c s₁ Bo hml hv
  obtain ⟨rfl, hW, hK⟩ := hv
  have hx := Bo.exec
  have hb := Bo.bytes
  have hr := Bo.returns
  have hts := hts_of (atoms_spec (ws := wsg yX2_copyFrom cX2_copyFrom 2 none) Bo.pre)
  have hown : s.vm.findClass RX2 = some m.cls := findClass_of_methodNamed Bo.named
  have hlocks := Bo.notSynchronized
  have hS : va_S (AA b) s.heap s.heap [] := va_S.rf
  have hl := lv_entry ([.ref (b + P), .ref (b + B)]) (n := 2) (Nat.le_of_ble_eq_true rfl)
  rw [lg_entry_eq]
  generalize (lg_sl ([.ref (b + P), .ref (b + B)]) ++ List.replicate (2 - (lg_sl ([.ref (b + P), .ref (b + B)])).length) Slot.unset).toArray = ls at hl ⊢
  have hl : lv_has ls 2 [(0, .ref (b + P)), (1, .ref (b + B))] := hl
  refine lv_aload_n hx hb dX2_copyFrom_0 rfl (lv_at hl 0 rfl) ?_
  refine lv_aload_n hx hb dX2_copyFrom_1 rfl (lv_at hl 1 rfl) ?_
  refine w_get hx hb hts inX2 hown hK hW (ltP hB) (Ent_P hB) rfl 0 (by decide) q_399 (fun _ h => h) rfl dX2_copyFrom_2 ?_
  refine w_put hx hb hts inX2 tyX2 tyX2_ok nmX2 hown hK hW hS (ltP hP) (Ent_P hP) rfl 0 (by decide) q_399 (fun _ h => h) rfl rfl rfl (Nat.le_of_ble_eq_true rfl) (setP hP (by decide)) dX2_copyFrom_5 (fun H locs hW hS => ?_)
  refine lv_aload_n hx hb dX2_copyFrom_8 rfl (lv_at hl 0 rfl) ?_
  refine lv_aload_n hx hb dX2_copyFrom_9 rfl (lv_at hl 1 rfl) ?_
  refine w_get hx hb hts inX2 hown hK hW (ltP hB) (Ent_P hB) rfl 1 (by decide) q_402 (fun _ h => h) rfl dX2_copyFrom_10 ?_
  refine w_put hx hb hts inX2 tyX2 tyX2_ok nmX2 hown hK hW hS (ltP hP) (Ent_P hP) rfl 1 (by decide) q_402 (fun _ h => h) rfl rfl rfl (Nat.le_of_ble_eq_true rfl) (setP hP (by decide)) dX2_copyFrom_13 (fun H locs hW hS => ?_)
  refine lv_aload_n hx hb dX2_copyFrom_16 rfl (lv_at hl 0 rfl) ?_
  refine lv_aload_n hx hb dX2_copyFrom_17 rfl (lv_at hl 1 rfl) ?_
  refine w_get hx hb hts inX2 hown hK hW (ltP hB) (Ent_P hB) rfl 2 (by decide) q_405 (fun _ h => h) rfl dX2_copyFrom_18 ?_
  refine w_put hx hb hts inX2 tyX2 tyX2_ok nmX2 hown hK hW hS (ltP hP) (Ent_P hP) rfl 2 (by decide) q_405 (fun _ h => h) rfl rfl rfl (Nat.le_of_ble_eq_true rfl) (setP hP (by decide)) dX2_copyFrom_21 (fun H locs hW hS => ?_)
  refine lv_aload_n hx hb dX2_copyFrom_24 rfl (lv_at hl 0 rfl) ?_
  refine lv_aload_n hx hb dX2_copyFrom_25 rfl (lv_at hl 1 rfl) ?_
  refine w_get hx hb hts inX2 hown hK hW (ltP hB) (Ent_P hB) rfl 3 (by decide) q_407 (fun _ h => h) rfl dX2_copyFrom_26 ?_
  refine w_put hx hb hts inX2 tyX2 tyX2_ok nmX2 hown hK hW hS (ltP hP) (Ent_P hP) rfl 3 (by decide) q_407 (fun _ h => h) rfl rfl rfl (Nat.le_of_ble_eq_true rfl) (setP hP (by decide)) dX2_copyFrom_29 (fun H locs hW hS => ?_)
  refine lv_aload_n hx hb dX2_copyFrom_32 rfl (lv_at hl 0 rfl) ?_
  refine lv_aload_n hx hb dX2_copyFrom_33 rfl (lv_at hl 1 rfl) ?_
  refine w_get hx hb hts inX2 hown hK hW (ltP hB) (Ent_P hB) rfl 4 (by decide) q_408 (fun _ h => h) rfl dX2_copyFrom_34 ?_
  refine w_put hx hb hts inX2 tyX2 tyX2_ok nmX2 hown hK hW hS (ltP hP) (Ent_P hP) rfl 4 (by decide) q_408 (fun _ h => h) rfl rfl rfl (Nat.le_of_ble_eq_true rfl) (setP hP (by decide)) dX2_copyFrom_37 (fun H locs hW hS => ?_)
  refine lv_aload_n hx hb dX2_copyFrom_40 rfl (lv_at hl 0 rfl) ?_
  refine lv_aload_n hx hb dX2_copyFrom_41 rfl (lv_at hl 1 rfl) ?_
  refine w_get hx hb hts inX2 hown hK hW (ltP hB) (Ent_P hB) rfl 5 (by decide) q_410 (fun _ h => h) rfl dX2_copyFrom_42 ?_
  refine w_put hx hb hts inX2 tyX2 tyX2_ok nmX2 hown hK hW hS (ltP hP) (Ent_P hP) rfl 5 (by decide) q_410 (fun _ h => h) rfl rfl rfl (Nat.le_of_ble_eq_true rfl) (setP hP (by decide)) dX2_copyFrom_45 (fun H locs hW hS => ?_)
  refine lv_aload_n hx hb dX2_copyFrom_48 rfl (lv_at hl 0 rfl) ?_
  refine lv_aload_n hx hb dX2_copyFrom_49 rfl (lv_at hl 1 rfl) ?_
  refine w_get hx hb hts inX2 hown hK hW (ltP hB) (Ent_P hB) rfl 6 (by decide) q_412 (fun _ h => h) rfl dX2_copyFrom_50 ?_
  refine w_put hx hb hts inX2 tyX2 tyX2_ok nmX2 hown hK hW hS (ltP hP) (Ent_P hP) rfl 6 (by decide) q_412 (fun _ h => h) rfl rfl rfl (Nat.le_of_ble_eq_true rfl) (setP hP (by decide)) dX2_copyFrom_53 (fun H locs hW hS => ?_)
  refine lv_aload_n hx hb dX2_copyFrom_56 rfl (lv_at hl 0 rfl) ?_
  refine lv_aload_n hx hb dX2_copyFrom_57 rfl (lv_at hl 1 rfl) ?_
  refine w_get hx hb hts inX2 hown hK hW (ltP hB) (Ent_P hB) rfl 7 (by decide) q_413 (fun _ h => h) rfl dX2_copyFrom_58 ?_
  refine w_put hx hb hts inX2 tyX2 tyX2_ok nmX2 hown hK hW hS (ltP hP) (Ent_P hP) rfl 7 (by decide) q_413 (fun _ h => h) rfl (nz01 (show (u2 (u2 (u2 (u2 (u2 (u2 (u2 g P 0 (g B 0)) P 1 ((u2 g P 0 (g B 0)) B 1)) P 2 ((u2 (u2 g P 0 (g B 0)) P 1 ((u2 g P 0 (g B 0)) B 1)) B 2)) P 3 ((u2 (u2 (u2 g P 0 (g B 0)) P 1 ((u2 g P 0 (g B 0)) B 1)) P 2 ((u2 (u2 g P 0 (g B 0)) P 1 ((u2 g P 0 (g B 0)) B 1)) B 2)) B 3)) P 4 ((u2 (u2 (u2 (u2 g P 0 (g B 0)) P 1 ((u2 g P 0 (g B 0)) B 1)) P 2 ((u2 (u2 g P 0 (g B 0)) P 1 ((u2 g P 0 (g B 0)) B 1)) B 2)) P 3 ((u2 (u2 (u2 g P 0 (g B 0)) P 1 ((u2 g P 0 (g B 0)) B 1)) P 2 ((u2 (u2 g P 0 (g B 0)) P 1 ((u2 g P 0 (g B 0)) B 1)) B 2)) B 3)) B 4)) P 5 ((u2 (u2 (u2 (u2 (u2 g P 0 (g B 0)) P 1 ((u2 g P 0 (g B 0)) B 1)) P 2 ((u2 (u2 g P 0 (g B 0)) P 1 ((u2 g P 0 (g B 0)) B 1)) B 2)) P 3 ((u2 (u2 (u2 g P 0 (g B 0)) P 1 ((u2 g P 0 (g B 0)) B 1)) P 2 ((u2 (u2 g P 0 (g B 0)) P 1 ((u2 g P 0 (g B 0)) B 1)) B 2)) B 3)) P 4 ((u2 (u2 (u2 (u2 g P 0 (g B 0)) P 1 ((u2 g P 0 (g B 0)) B 1)) P 2 ((u2 (u2 g P 0 (g B 0)) P 1 ((u2 g P 0 (g B 0)) B 1)) B 2)) P 3 ((u2 (u2 (u2 g P 0 (g B 0)) P 1 ((u2 g P 0 (g B 0)) B 1)) P 2 ((u2 (u2 g P 0 (g B 0)) P 1 ((u2 g P 0 (g B 0)) B 1)) B 2)) B 3)) B 4)) B 5)) P 6 ((u2 (u2 (u2 (u2 (u2 (u2 g P 0 (g B 0)) P 1 ((u2 g P 0 (g B 0)) B 1)) P 2 ((u2 (u2 g P 0 (g B 0)) P 1 ((u2 g P 0 (g B 0)) B 1)) B 2)) P 3 ((u2 (u2 (u2 g P 0 (g B 0)) P 1 ((u2 g P 0 (g B 0)) B 1)) P 2 ((u2 (u2 g P 0 (g B 0)) P 1 ((u2 g P 0 (g B 0)) B 1)) B 2)) B 3)) P 4 ((u2 (u2 (u2 (u2 g P 0 (g B 0)) P 1 ((u2 g P 0 (g B 0)) B 1)) P 2 ((u2 (u2 g P 0 (g B 0)) P 1 ((u2 g P 0 (g B 0)) B 1)) B 2)) P 3 ((u2 (u2 (u2 g P 0 (g B 0)) P 1 ((u2 g P 0 (g B 0)) B 1)) P 2 ((u2 (u2 g P 0 (g B 0)) P 1 ((u2 g P 0 (g B 0)) B 1)) B 2)) B 3)) B 4)) P 5 ((u2 (u2 (u2 (u2 (u2 g P 0 (g B 0)) P 1 ((u2 g P 0 (g B 0)) B 1)) P 2 ((u2 (u2 g P 0 (g B 0)) P 1 ((u2 g P 0 (g B 0)) B 1)) B 2)) P 3 ((u2 (u2 (u2 g P 0 (g B 0)) P 1 ((u2 g P 0 (g B 0)) B 1)) P 2 ((u2 (u2 g P 0 (g B 0)) P 1 ((u2 g P 0 (g B 0)) B 1)) B 2)) B 3)) P 4 ((u2 (u2 (u2 (u2 g P 0 (g B 0)) P 1 ((u2 g P 0 (g B 0)) B 1)) P 2 ((u2 (u2 g P 0 (g B 0)) P 1 ((u2 g P 0 (g B 0)) B 1)) B 2)) P 3 ((u2 (u2 (u2 g P 0 (g B 0)) P 1 ((u2 g P 0 (g B 0)) B 1)) P 2 ((u2 (u2 g P 0 (g B 0)) P 1 ((u2 g P 0 (g B 0)) B 1)) B 2)) B 3)) B 4)) B 5)) B 6)) B 7 = 0 ∨ (u2 (u2 (u2 (u2 (u2 (u2 (u2 g P 0 (g B 0)) P 1 ((u2 g P 0 (g B 0)) B 1)) P 2 ((u2 (u2 g P 0 (g B 0)) P 1 ((u2 g P 0 (g B 0)) B 1)) B 2)) P 3 ((u2 (u2 (u2 g P 0 (g B 0)) P 1 ((u2 g P 0 (g B 0)) B 1)) P 2 ((u2 (u2 g P 0 (g B 0)) P 1 ((u2 g P 0 (g B 0)) B 1)) B 2)) B 3)) P 4 ((u2 (u2 (u2 (u2 g P 0 (g B 0)) P 1 ((u2 g P 0 (g B 0)) B 1)) P 2 ((u2 (u2 g P 0 (g B 0)) P 1 ((u2 g P 0 (g B 0)) B 1)) B 2)) P 3 ((u2 (u2 (u2 g P 0 (g B 0)) P 1 ((u2 g P 0 (g B 0)) B 1)) P 2 ((u2 (u2 g P 0 (g B 0)) P 1 ((u2 g P 0 (g B 0)) B 1)) B 2)) B 3)) B 4)) P 5 ((u2 (u2 (u2 (u2 (u2 g P 0 (g B 0)) P 1 ((u2 g P 0 (g B 0)) B 1)) P 2 ((u2 (u2 g P 0 (g B 0)) P 1 ((u2 g P 0 (g B 0)) B 1)) B 2)) P 3 ((u2 (u2 (u2 g P 0 (g B 0)) P 1 ((u2 g P 0 (g B 0)) B 1)) P 2 ((u2 (u2 g P 0 (g B 0)) P 1 ((u2 g P 0 (g B 0)) B 1)) B 2)) B 3)) P 4 ((u2 (u2 (u2 (u2 g P 0 (g B 0)) P 1 ((u2 g P 0 (g B 0)) B 1)) P 2 ((u2 (u2 g P 0 (g B 0)) P 1 ((u2 g P 0 (g B 0)) B 1)) B 2)) P 3 ((u2 (u2 (u2 g P 0 (g B 0)) P 1 ((u2 g P 0 (g B 0)) B 1)) P 2 ((u2 (u2 g P 0 (g B 0)) P 1 ((u2 g P 0 (g B 0)) B 1)) B 2)) B 3)) B 4)) B 5)) P 6 ((u2 (u2 (u2 (u2 (u2 (u2 g P 0 (g B 0)) P 1 ((u2 g P 0 (g B 0)) B 1)) P 2 ((u2 (u2 g P 0 (g B 0)) P 1 ((u2 g P 0 (g B 0)) B 1)) B 2)) P 3 ((u2 (u2 (u2 g P 0 (g B 0)) P 1 ((u2 g P 0 (g B 0)) B 1)) P 2 ((u2 (u2 g P 0 (g B 0)) P 1 ((u2 g P 0 (g B 0)) B 1)) B 2)) B 3)) P 4 ((u2 (u2 (u2 (u2 g P 0 (g B 0)) P 1 ((u2 g P 0 (g B 0)) B 1)) P 2 ((u2 (u2 g P 0 (g B 0)) P 1 ((u2 g P 0 (g B 0)) B 1)) B 2)) P 3 ((u2 (u2 (u2 g P 0 (g B 0)) P 1 ((u2 g P 0 (g B 0)) B 1)) P 2 ((u2 (u2 g P 0 (g B 0)) P 1 ((u2 g P 0 (g B 0)) B 1)) B 2)) B 3)) B 4)) P 5 ((u2 (u2 (u2 (u2 (u2 g P 0 (g B 0)) P 1 ((u2 g P 0 (g B 0)) B 1)) P 2 ((u2 (u2 g P 0 (g B 0)) P 1 ((u2 g P 0 (g B 0)) B 1)) B 2)) P 3 ((u2 (u2 (u2 g P 0 (g B 0)) P 1 ((u2 g P 0 (g B 0)) B 1)) P 2 ((u2 (u2 g P 0 (g B 0)) P 1 ((u2 g P 0 (g B 0)) B 1)) B 2)) B 3)) P 4 ((u2 (u2 (u2 (u2 g P 0 (g B 0)) P 1 ((u2 g P 0 (g B 0)) B 1)) P 2 ((u2 (u2 g P 0 (g B 0)) P 1 ((u2 g P 0 (g B 0)) B 1)) B 2)) P 3 ((u2 (u2 (u2 g P 0 (g B 0)) P 1 ((u2 g P 0 (g B 0)) B 1)) P 2 ((u2 (u2 g P 0 (g B 0)) P 1 ((u2 g P 0 (g B 0)) B 1)) B 2)) B 3)) B 4)) B 5)) B 6)) B 7 = 1 by simp only [u2_n hPB]; exact h7)).1 (nz01 (show (u2 (u2 (u2 (u2 (u2 (u2 (u2 g P 0 (g B 0)) P 1 ((u2 g P 0 (g B 0)) B 1)) P 2 ((u2 (u2 g P 0 (g B 0)) P 1 ((u2 g P 0 (g B 0)) B 1)) B 2)) P 3 ((u2 (u2 (u2 g P 0 (g B 0)) P 1 ((u2 g P 0 (g B 0)) B 1)) P 2 ((u2 (u2 g P 0 (g B 0)) P 1 ((u2 g P 0 (g B 0)) B 1)) B 2)) B 3)) P 4 ((u2 (u2 (u2 (u2 g P 0 (g B 0)) P 1 ((u2 g P 0 (g B 0)) B 1)) P 2 ((u2 (u2 g P 0 (g B 0)) P 1 ((u2 g P 0 (g B 0)) B 1)) B 2)) P 3 ((u2 (u2 (u2 g P 0 (g B 0)) P 1 ((u2 g P 0 (g B 0)) B 1)) P 2 ((u2 (u2 g P 0 (g B 0)) P 1 ((u2 g P 0 (g B 0)) B 1)) B 2)) B 3)) B 4)) P 5 ((u2 (u2 (u2 (u2 (u2 g P 0 (g B 0)) P 1 ((u2 g P 0 (g B 0)) B 1)) P 2 ((u2 (u2 g P 0 (g B 0)) P 1 ((u2 g P 0 (g B 0)) B 1)) B 2)) P 3 ((u2 (u2 (u2 g P 0 (g B 0)) P 1 ((u2 g P 0 (g B 0)) B 1)) P 2 ((u2 (u2 g P 0 (g B 0)) P 1 ((u2 g P 0 (g B 0)) B 1)) B 2)) B 3)) P 4 ((u2 (u2 (u2 (u2 g P 0 (g B 0)) P 1 ((u2 g P 0 (g B 0)) B 1)) P 2 ((u2 (u2 g P 0 (g B 0)) P 1 ((u2 g P 0 (g B 0)) B 1)) B 2)) P 3 ((u2 (u2 (u2 g P 0 (g B 0)) P 1 ((u2 g P 0 (g B 0)) B 1)) P 2 ((u2 (u2 g P 0 (g B 0)) P 1 ((u2 g P 0 (g B 0)) B 1)) B 2)) B 3)) B 4)) B 5)) P 6 ((u2 (u2 (u2 (u2 (u2 (u2 g P 0 (g B 0)) P 1 ((u2 g P 0 (g B 0)) B 1)) P 2 ((u2 (u2 g P 0 (g B 0)) P 1 ((u2 g P 0 (g B 0)) B 1)) B 2)) P 3 ((u2 (u2 (u2 g P 0 (g B 0)) P 1 ((u2 g P 0 (g B 0)) B 1)) P 2 ((u2 (u2 g P 0 (g B 0)) P 1 ((u2 g P 0 (g B 0)) B 1)) B 2)) B 3)) P 4 ((u2 (u2 (u2 (u2 g P 0 (g B 0)) P 1 ((u2 g P 0 (g B 0)) B 1)) P 2 ((u2 (u2 g P 0 (g B 0)) P 1 ((u2 g P 0 (g B 0)) B 1)) B 2)) P 3 ((u2 (u2 (u2 g P 0 (g B 0)) P 1 ((u2 g P 0 (g B 0)) B 1)) P 2 ((u2 (u2 g P 0 (g B 0)) P 1 ((u2 g P 0 (g B 0)) B 1)) B 2)) B 3)) B 4)) P 5 ((u2 (u2 (u2 (u2 (u2 g P 0 (g B 0)) P 1 ((u2 g P 0 (g B 0)) B 1)) P 2 ((u2 (u2 g P 0 (g B 0)) P 1 ((u2 g P 0 (g B 0)) B 1)) B 2)) P 3 ((u2 (u2 (u2 g P 0 (g B 0)) P 1 ((u2 g P 0 (g B 0)) B 1)) P 2 ((u2 (u2 g P 0 (g B 0)) P 1 ((u2 g P 0 (g B 0)) B 1)) B 2)) B 3)) P 4 ((u2 (u2 (u2 (u2 g P 0 (g B 0)) P 1 ((u2 g P 0 (g B 0)) B 1)) P 2 ((u2 (u2 g P 0 (g B 0)) P 1 ((u2 g P 0 (g B 0)) B 1)) B 2)) P 3 ((u2 (u2 (u2 g P 0 (g B 0)) P 1 ((u2 g P 0 (g B 0)) B 1)) P 2 ((u2 (u2 g P 0 (g B 0)) P 1 ((u2 g P 0 (g B 0)) B 1)) B 2)) B 3)) B 4)) B 5)) B 6)) B 7 = 0 ∨ (u2 (u2 (u2 (u2 (u2 (u2 (u2 g P 0 (g B 0)) P 1 ((u2 g P 0 (g B 0)) B 1)) P 2 ((u2 (u2 g P 0 (g B 0)) P 1 ((u2 g P 0 (g B 0)) B 1)) B 2)) P 3 ((u2 (u2 (u2 g P 0 (g B 0)) P 1 ((u2 g P 0 (g B 0)) B 1)) P 2 ((u2 (u2 g P 0 (g B 0)) P 1 ((u2 g P 0 (g B 0)) B 1)) B 2)) B 3)) P 4 ((u2 (u2 (u2 (u2 g P 0 (g B 0)) P 1 ((u2 g P 0 (g B 0)) B 1)) P 2 ((u2 (u2 g P 0 (g B 0)) P 1 ((u2 g P 0 (g B 0)) B 1)) B 2)) P 3 ((u2 (u2 (u2 g P 0 (g B 0)) P 1 ((u2 g P 0 (g B 0)) B 1)) P 2 ((u2 (u2 g P 0 (g B 0)) P 1 ((u2 g P 0 (g B 0)) B 1)) B 2)) B 3)) B 4)) P 5 ((u2 (u2 (u2 (u2 (u2 g P 0 (g B 0)) P 1 ((u2 g P 0 (g B 0)) B 1)) P 2 ((u2 (u2 g P 0 (g B 0)) P 1 ((u2 g P 0 (g B 0)) B 1)) B 2)) P 3 ((u2 (u2 (u2 g P 0 (g B 0)) P 1 ((u2 g P 0 (g B 0)) B 1)) P 2 ((u2 (u2 g P 0 (g B 0)) P 1 ((u2 g P 0 (g B 0)) B 1)) B 2)) B 3)) P 4 ((u2 (u2 (u2 (u2 g P 0 (g B 0)) P 1 ((u2 g P 0 (g B 0)) B 1)) P 2 ((u2 (u2 g P 0 (g B 0)) P 1 ((u2 g P 0 (g B 0)) B 1)) B 2)) P 3 ((u2 (u2 (u2 g P 0 (g B 0)) P 1 ((u2 g P 0 (g B 0)) B 1)) P 2 ((u2 (u2 g P 0 (g B 0)) P 1 ((u2 g P 0 (g B 0)) B 1)) B 2)) B 3)) B 4)) B 5)) P 6 ((u2 (u2 (u2 (u2 (u2 (u2 g P 0 (g B 0)) P 1 ((u2 g P 0 (g B 0)) B 1)) P 2 ((u2 (u2 g P 0 (g B 0)) P 1 ((u2 g P 0 (g B 0)) B 1)) B 2)) P 3 ((u2 (u2 (u2 g P 0 (g B 0)) P 1 ((u2 g P 0 (g B 0)) B 1)) P 2 ((u2 (u2 g P 0 (g B 0)) P 1 ((u2 g P 0 (g B 0)) B 1)) B 2)) B 3)) P 4 ((u2 (u2 (u2 (u2 g P 0 (g B 0)) P 1 ((u2 g P 0 (g B 0)) B 1)) P 2 ((u2 (u2 g P 0 (g B 0)) P 1 ((u2 g P 0 (g B 0)) B 1)) B 2)) P 3 ((u2 (u2 (u2 g P 0 (g B 0)) P 1 ((u2 g P 0 (g B 0)) B 1)) P 2 ((u2 (u2 g P 0 (g B 0)) P 1 ((u2 g P 0 (g B 0)) B 1)) B 2)) B 3)) B 4)) P 5 ((u2 (u2 (u2 (u2 (u2 g P 0 (g B 0)) P 1 ((u2 g P 0 (g B 0)) B 1)) P 2 ((u2 (u2 g P 0 (g B 0)) P 1 ((u2 g P 0 (g B 0)) B 1)) B 2)) P 3 ((u2 (u2 (u2 g P 0 (g B 0)) P 1 ((u2 g P 0 (g B 0)) B 1)) P 2 ((u2 (u2 g P 0 (g B 0)) P 1 ((u2 g P 0 (g B 0)) B 1)) B 2)) B 3)) P 4 ((u2 (u2 (u2 (u2 g P 0 (g B 0)) P 1 ((u2 g P 0 (g B 0)) B 1)) P 2 ((u2 (u2 g P 0 (g B 0)) P 1 ((u2 g P 0 (g B 0)) B 1)) B 2)) P 3 ((u2 (u2 (u2 g P 0 (g B 0)) P 1 ((u2 g P 0 (g B 0)) B 1)) P 2 ((u2 (u2 g P 0 (g B 0)) P 1 ((u2 g P 0 (g B 0)) B 1)) B 2)) B 3)) B 4)) B 5)) B 6)) B 7 = 1 by simp only [u2_n hPB]; exact h7)).2 (Nat.le_of_ble_eq_true rfl) (setP hP (by decide)) dX2_copyFrom_61 (fun H locs hW hS => ?_)
  exact W.vret hx hb hr (fun t9 ht9 _ => ⟨⟨(u2 (u2 (u2 (u2 (u2 (u2 (u2 (u2 g P 0 (g B 0)) P 1 ((u2 g P 0 (g B 0)) B 1)) P 2 ((u2 (u2 g P 0 (g B 0)) P 1 ((u2 g P 0 (g B 0)) B 1)) B 2)) P 3 ((u2 (u2 (u2 g P 0 (g B 0)) P 1 ((u2 g P 0 (g B 0)) B 1)) P 2 ((u2 (u2 g P 0 (g B 0)) P 1 ((u2 g P 0 (g B 0)) B 1)) B 2)) B 3)) P 4 ((u2 (u2 (u2 (u2 g P 0 (g B 0)) P 1 ((u2 g P 0 (g B 0)) B 1)) P 2 ((u2 (u2 g P 0 (g B 0)) P 1 ((u2 g P 0 (g B 0)) B 1)) B 2)) P 3 ((u2 (u2 (u2 g P 0 (g B 0)) P 1 ((u2 g P 0 (g B 0)) B 1)) P 2 ((u2 (u2 g P 0 (g B 0)) P 1 ((u2 g P 0 (g B 0)) B 1)) B 2)) B 3)) B 4)) P 5 ((u2 (u2 (u2 (u2 (u2 g P 0 (g B 0)) P 1 ((u2 g P 0 (g B 0)) B 1)) P 2 ((u2 (u2 g P 0 (g B 0)) P 1 ((u2 g P 0 (g B 0)) B 1)) B 2)) P 3 ((u2 (u2 (u2 g P 0 (g B 0)) P 1 ((u2 g P 0 (g B 0)) B 1)) P 2 ((u2 (u2 g P 0 (g B 0)) P 1 ((u2 g P 0 (g B 0)) B 1)) B 2)) B 3)) P 4 ((u2 (u2 (u2 (u2 g P 0 (g B 0)) P 1 ((u2 g P 0 (g B 0)) B 1)) P 2 ((u2 (u2 g P 0 (g B 0)) P 1 ((u2 g P 0 (g B 0)) B 1)) B 2)) P 3 ((u2 (u2 (u2 g P 0 (g B 0)) P 1 ((u2 g P 0 (g B 0)) B 1)) P 2 ((u2 (u2 g P 0 (g B 0)) P 1 ((u2 g P 0 (g B 0)) B 1)) B 2)) B 3)) B 4)) B 5)) P 6 ((u2 (u2 (u2 (u2 (u2 (u2 g P 0 (g B 0)) P 1 ((u2 g P 0 (g B 0)) B 1)) P 2 ((u2 (u2 g P 0 (g B 0)) P 1 ((u2 g P 0 (g B 0)) B 1)) B 2)) P 3 ((u2 (u2 (u2 g P 0 (g B 0)) P 1 ((u2 g P 0 (g B 0)) B 1)) P 2 ((u2 (u2 g P 0 (g B 0)) P 1 ((u2 g P 0 (g B 0)) B 1)) B 2)) B 3)) P 4 ((u2 (u2 (u2 (u2 g P 0 (g B 0)) P 1 ((u2 g P 0 (g B 0)) B 1)) P 2 ((u2 (u2 g P 0 (g B 0)) P 1 ((u2 g P 0 (g B 0)) B 1)) B 2)) P 3 ((u2 (u2 (u2 g P 0 (g B 0)) P 1 ((u2 g P 0 (g B 0)) B 1)) P 2 ((u2 (u2 g P 0 (g B 0)) P 1 ((u2 g P 0 (g B 0)) B 1)) B 2)) B 3)) B 4)) P 5 ((u2 (u2 (u2 (u2 (u2 g P 0 (g B 0)) P 1 ((u2 g P 0 (g B 0)) B 1)) P 2 ((u2 (u2 g P 0 (g B 0)) P 1 ((u2 g P 0 (g B 0)) B 1)) B 2)) P 3 ((u2 (u2 (u2 g P 0 (g B 0)) P 1 ((u2 g P 0 (g B 0)) B 1)) P 2 ((u2 (u2 g P 0 (g B 0)) P 1 ((u2 g P 0 (g B 0)) B 1)) B 2)) B 3)) P 4 ((u2 (u2 (u2 (u2 g P 0 (g B 0)) P 1 ((u2 g P 0 (g B 0)) B 1)) P 2 ((u2 (u2 g P 0 (g B 0)) P 1 ((u2 g P 0 (g B 0)) B 1)) B 2)) P 3 ((u2 (u2 (u2 g P 0 (g B 0)) P 1 ((u2 g P 0 (g B 0)) B 1)) P 2 ((u2 (u2 g P 0 (g B 0)) P 1 ((u2 g P 0 (g B 0)) B 1)) B 2)) B 3)) B 4)) B 5)) B 6)) P 7 ((u2 (u2 (u2 (u2 (u2 (u2 (u2 g P 0 (g B 0)) P 1 ((u2 g P 0 (g B 0)) B 1)) P 2 ((u2 (u2 g P 0 (g B 0)) P 1 ((u2 g P 0 (g B 0)) B 1)) B 2)) P 3 ((u2 (u2 (u2 g P 0 (g B 0)) P 1 ((u2 g P 0 (g B 0)) B 1)) P 2 ((u2 (u2 g P 0 (g B 0)) P 1 ((u2 g P 0 (g B 0)) B 1)) B 2)) B 3)) P 4 ((u2 (u2 (u2 (u2 g P 0 (g B 0)) P 1 ((u2 g P 0 (g B 0)) B 1)) P 2 ((u2 (u2 g P 0 (g B 0)) P 1 ((u2 g P 0 (g B 0)) B 1)) B 2)) P 3 ((u2 (u2 (u2 g P 0 (g B 0)) P 1 ((u2 g P 0 (g B 0)) B 1)) P 2 ((u2 (u2 g P 0 (g B 0)) P 1 ((u2 g P 0 (g B 0)) B 1)) B 2)) B 3)) B 4)) P 5 ((u2 (u2 (u2 (u2 (u2 g P 0 (g B 0)) P 1 ((u2 g P 0 (g B 0)) B 1)) P 2 ((u2 (u2 g P 0 (g B 0)) P 1 ((u2 g P 0 (g B 0)) B 1)) B 2)) P 3 ((u2 (u2 (u2 g P 0 (g B 0)) P 1 ((u2 g P 0 (g B 0)) B 1)) P 2 ((u2 (u2 g P 0 (g B 0)) P 1 ((u2 g P 0 (g B 0)) B 1)) B 2)) B 3)) P 4 ((u2 (u2 (u2 (u2 g P 0 (g B 0)) P 1 ((u2 g P 0 (g B 0)) B 1)) P 2 ((u2 (u2 g P 0 (g B 0)) P 1 ((u2 g P 0 (g B 0)) B 1)) B 2)) P 3 ((u2 (u2 (u2 g P 0 (g B 0)) P 1 ((u2 g P 0 (g B 0)) B 1)) P 2 ((u2 (u2 g P 0 (g B 0)) P 1 ((u2 g P 0 (g B 0)) B 1)) B 2)) B 3)) B 4)) B 5)) P 6 ((u2 (u2 (u2 (u2 (u2 (u2 g P 0 (g B 0)) P 1 ((u2 g P 0 (g B 0)) B 1)) P 2 ((u2 (u2 g P 0 (g B 0)) P 1 ((u2 g P 0 (g B 0)) B 1)) B 2)) P 3 ((u2 (u2 (u2 g P 0 (g B 0)) P 1 ((u2 g P 0 (g B 0)) B 1)) P 2 ((u2 (u2 g P 0 (g B 0)) P 1 ((u2 g P 0 (g B 0)) B 1)) B 2)) B 3)) P 4 ((u2 (u2 (u2 (u2 g P 0 (g B 0)) P 1 ((u2 g P 0 (g B 0)) B 1)) P 2 ((u2 (u2 g P 0 (g B 0)) P 1 ((u2 g P 0 (g B 0)) B 1)) B 2)) P 3 ((u2 (u2 (u2 g P 0 (g B 0)) P 1 ((u2 g P 0 (g B 0)) B 1)) P 2 ((u2 (u2 g P 0 (g B 0)) P 1 ((u2 g P 0 (g B 0)) B 1)) B 2)) B 3)) B 4)) P 5 ((u2 (u2 (u2 (u2 (u2 g P 0 (g B 0)) P 1 ((u2 g P 0 (g B 0)) B 1)) P 2 ((u2 (u2 g P 0 (g B 0)) P 1 ((u2 g P 0 (g B 0)) B 1)) B 2)) P 3 ((u2 (u2 (u2 g P 0 (g B 0)) P 1 ((u2 g P 0 (g B 0)) B 1)) P 2 ((u2 (u2 g P 0 (g B 0)) P 1 ((u2 g P 0 (g B 0)) B 1)) B 2)) B 3)) P 4 ((u2 (u2 (u2 (u2 g P 0 (g B 0)) P 1 ((u2 g P 0 (g B 0)) B 1)) P 2 ((u2 (u2 g P 0 (g B 0)) P 1 ((u2 g P 0 (g B 0)) B 1)) B 2)) P 3 ((u2 (u2 (u2 g P 0 (g B 0)) P 1 ((u2 g P 0 (g B 0)) B 1)) P 2 ((u2 (u2 g P 0 (g B 0)) P 1 ((u2 g P 0 (g B 0)) B 1)) B 2)) B 3)) B 4)) B 5)) B 6)) B 7)), rfl, (by simp [f_cpP, u2_app, hPB]), by show wd X b _ w t9.heap; rw [ht9]; exact hW⟩, hS.F ht9⟩) hS.2.2 dX2_copyFrom_64

set_option maxHeartbeats 1000000 in
set_option maxRecDepth 100000 in
theorem metX0_copyFrom (l : Launch) (X : CX) (b : Nat) (w : Int64) (g : S2) {P B : Nat} (hP : isB P) (hB : isB B) (hPB : B ≠ P) (h7 : g B 2 = 0 ∨ g B 2 = 1) : Met l yX0_copyFrom (wsg yX0_copyFrom cX0_copyFrom 2 none) ({ frames := 0, cells := 0, slots := 0, locals := 0 }) (Pre X b g w [.ref (b + P), .ref (b + B)]) (Qv X b w (fun g1 : S2 => g1 = f_cpB g P B)) 0 0 (AA b) := by
  refine Met.ofW (cc := cX0_copyFrom) (maxL := 2) (ret := none) (by decide) rfl ?_
  intro p e s m args below meth c s₁ Bo hml hv
  obtain ⟨rfl, hW, hK⟩ := hv
  have hx := Bo.exec
  have hb := Bo.bytes
  have hr := Bo.returns
  have hts := hts_of (atoms_spec (ws := wsg yX0_copyFrom cX0_copyFrom 2 none) Bo.pre)
  have hown : s.vm.findClass RX0 = some m.cls := findClass_of_methodNamed Bo.named
  have hlocks := Bo.notSynchronized
  have hS : va_S (AA b) s.heap s.heap [] := va_S.rf
  have hl := lv_entry ([.ref (b + P), .ref (b + B)]) (n := 2) (Nat.le_of_ble_eq_true rfl)
  rw [lg_entry_eq]
  generalize (lg_sl ([.ref (b + P), .ref (b + B)]) ++ List.replicate (2 - (lg_sl ([.ref (b + P), .ref (b + B)])).length) Slot.unset).toArray = ls at hl ⊢
  have hl : lv_has ls 2 [(0, .ref (b + P)), (1, .ref (b + B))] := hl
  refine lv_aload_n hx hb dX0_copyFrom_0 rfl (lv_at hl 0 rfl) ?_
  refine lv_aload_n hx hb dX0_copyFrom_1 rfl (lv_at hl 1 rfl) ?_
  refine w_get hx hb hts inX0 hown hK hW (ltB hB) (Ent_B hB) rfl 1 (by decide) q_367 (fun _ h => h) rfl dX0_copyFrom_2 ?_
  refine w_put hx hb hts inX0 tyX0 tyX0_ok nmX0 hown hK hW hS (ltB hP) (Ent_B hP) rfl 1 (by decide) q_367 (fun _ h => h) rfl rfl rfl (Nat.le_of_ble_eq_true rfl) (setB hP (by decide)) dX0_copyFrom_5 (fun H locs hW hS => ?_)
  refine lv_aload_n hx hb dX0_copyFrom_8 rfl (lv_at hl 0 rfl) ?_
  refine lv_aload_n hx hb dX0_copyFrom_9 rfl (lv_at hl 1 rfl) ?_
  refine w_get hx hb hts inX0 hown hK hW (ltB hB) (Ent_B hB) rfl 2 (by decide) q_369 (fun _ h => h) rfl dX0_copyFrom_10 ?_
  refine w_put hx hb hts inX0 tyX0 tyX0_ok nmX0 hown hK hW hS (ltB hP) (Ent_B hP) rfl 2 (by decide) q_369 (fun _ h => h) rfl (nz01 (show (u2 g P 1 (g B 1)) B 2 = 0 ∨ (u2 g P 1 (g B 1)) B 2 = 1 by simp only [u2_n hPB]; exact h7)).1 (nz01 (show (u2 g P 1 (g B 1)) B 2 = 0 ∨ (u2 g P 1 (g B 1)) B 2 = 1 by simp only [u2_n hPB]; exact h7)).2 (Nat.le_of_ble_eq_true rfl) (setB hP (by decide)) dX0_copyFrom_13 (fun H locs hW hS => ?_)
  refine lv_aload_n hx hb dX0_copyFrom_16 rfl (lv_at hl 0 rfl) ?_
  refine lv_aload_n hx hb dX0_copyFrom_17 rfl (lv_at hl 1 rfl) ?_
  refine w_get hx hb hts inX0 hown hK hW (ltB hB) (Ent_B hB) rfl 3 (by decide) q_371 (fun _ h => h) rfl dX0_copyFrom_18 ?_
  refine w_put hx hb hts inX0 tyX0 tyX0_ok nmX0 hown hK hW hS (ltB hP) (Ent_B hP) rfl 3 (by decide) q_371 (fun _ h => h) rfl rfl rfl (Nat.le_of_ble_eq_true rfl) (setB hP (by decide)) dX0_copyFrom_21 (fun H locs hW hS => ?_)
  refine lv_aload_n hx hb dX0_copyFrom_24 rfl (lv_at hl 0 rfl) ?_
  refine lv_aload_n hx hb dX0_copyFrom_25 rfl (lv_at hl 1 rfl) ?_
  refine w_get hx hb hts inX0 hown hK hW (ltB hB) (Ent_B hB) rfl 4 (by decide) q_373 (fun _ h => h) rfl dX0_copyFrom_26 ?_
  refine w_put hx hb hts inX0 tyX0 tyX0_ok nmX0 hown hK hW hS (ltB hP) (Ent_B hP) rfl 4 (by decide) q_373 (fun _ h => h) rfl rfl rfl (Nat.le_of_ble_eq_true rfl) (setB hP (by decide)) dX0_copyFrom_29 (fun H locs hW hS => ?_)
  refine lv_aload_n hx hb dX0_copyFrom_32 rfl (lv_at hl 0 rfl) ?_
  refine lv_aload_n hx hb dX0_copyFrom_33 rfl (lv_at hl 1 rfl) ?_
  refine w_get hx hb hts inX0 hown hK hW (ltB hB) (Ent_B hB) rfl 5 (by decide) q_375 (fun _ h => h) rfl dX0_copyFrom_34 ?_
  refine w_put hx hb hts inX0 tyX0 tyX0_ok nmX0 hown hK hW hS (ltB hP) (Ent_B hP) rfl 5 (by decide) q_375 (fun _ h => h) rfl rfl rfl (Nat.le_of_ble_eq_true rfl) (setB hP (by decide)) dX0_copyFrom_37 (fun H locs hW hS => ?_)
  refine lv_aload_n hx hb dX0_copyFrom_40 rfl (lv_at hl 0 rfl) ?_
  refine lv_aload_n hx hb dX0_copyFrom_41 rfl (lv_at hl 1 rfl) ?_
  refine w_get hx hb hts inX0 hown hK hW (ltB hB) (Ent_B hB) rfl 6 (by decide) q_377 (fun _ h => h) rfl dX0_copyFrom_42 ?_
  refine w_put hx hb hts inX0 tyX0 tyX0_ok nmX0 hown hK hW hS (ltB hP) (Ent_B hP) rfl 6 (by decide) q_377 (fun _ h => h) rfl rfl rfl (Nat.le_of_ble_eq_true rfl) (setB hP (by decide)) dX0_copyFrom_45 (fun H locs hW hS => ?_)
  exact W.vret hx hb hr (fun t9 ht9 _ => ⟨⟨(u2 (u2 (u2 (u2 (u2 (u2 g P 1 (g B 1)) P 2 ((u2 g P 1 (g B 1)) B 2)) P 3 ((u2 (u2 g P 1 (g B 1)) P 2 ((u2 g P 1 (g B 1)) B 2)) B 3)) P 4 ((u2 (u2 (u2 g P 1 (g B 1)) P 2 ((u2 g P 1 (g B 1)) B 2)) P 3 ((u2 (u2 g P 1 (g B 1)) P 2 ((u2 g P 1 (g B 1)) B 2)) B 3)) B 4)) P 5 ((u2 (u2 (u2 (u2 g P 1 (g B 1)) P 2 ((u2 g P 1 (g B 1)) B 2)) P 3 ((u2 (u2 g P 1 (g B 1)) P 2 ((u2 g P 1 (g B 1)) B 2)) B 3)) P 4 ((u2 (u2 (u2 g P 1 (g B 1)) P 2 ((u2 g P 1 (g B 1)) B 2)) P 3 ((u2 (u2 g P 1 (g B 1)) P 2 ((u2 g P 1 (g B 1)) B 2)) B 3)) B 4)) B 5)) P 6 ((u2 (u2 (u2 (u2 (u2 g P 1 (g B 1)) P 2 ((u2 g P 1 (g B 1)) B 2)) P 3 ((u2 (u2 g P 1 (g B 1)) P 2 ((u2 g P 1 (g B 1)) B 2)) B 3)) P 4 ((u2 (u2 (u2 g P 1 (g B 1)) P 2 ((u2 g P 1 (g B 1)) B 2)) P 3 ((u2 (u2 g P 1 (g B 1)) P 2 ((u2 g P 1 (g B 1)) B 2)) B 3)) B 4)) P 5 ((u2 (u2 (u2 (u2 g P 1 (g B 1)) P 2 ((u2 g P 1 (g B 1)) B 2)) P 3 ((u2 (u2 g P 1 (g B 1)) P 2 ((u2 g P 1 (g B 1)) B 2)) B 3)) P 4 ((u2 (u2 (u2 g P 1 (g B 1)) P 2 ((u2 g P 1 (g B 1)) B 2)) P 3 ((u2 (u2 g P 1 (g B 1)) P 2 ((u2 g P 1 (g B 1)) B 2)) B 3)) B 4)) B 5)) B 6)), rfl, (by simp [f_cpB, u2_app, hPB]), by show wd X b _ w t9.heap; rw [ht9]; exact hW⟩, hS.F ht9⟩) hS.2.2 dX0_copyFrom_48

set_option maxHeartbeats 1000000 in
set_option maxRecDepth 100000 in
theorem metX3_copyFrom (l : Launch) (X : CX) (b : Nat) (w : Int64) (g : S2) {P B : Nat} (hP : isS P) (hB : isS B) (hPB : B ≠ P) : Met l yX3_copyFrom (wsg yX3_copyFrom cX3_copyFrom 2 none) ({ frames := 0, cells := 0, slots := 0, locals := 0 }) (Pre X b g w [.ref (b + P), .ref (b + B)]) (Qv X b w (fun g1 : S2 => g1 = f_cpS g P B)) 0 0 (AA b) := by
  refine Met.ofW (cc := cX3_copyFrom) (maxL := 2) (ret := none) (by decide) rfl ?_
  intro p e s m args below meth c s₁ Bo hml hv
  obtain ⟨rfl, hW, hK⟩ := hv
  have hx := Bo.exec
  have hb := Bo.bytes
  have hr := Bo.returns
  have hts := hts_of (atoms_spec (ws := wsg yX3_copyFrom cX3_copyFrom 2 none) Bo.pre)
  have hown : s.vm.findClass RX3 = some m.cls := findClass_of_methodNamed Bo.named
  have hlocks := Bo.notSynchronized
  have hS : va_S (AA b) s.heap s.heap [] := va_S.rf
  have hl := lv_entry ([.ref (b + P), .ref (b + B)]) (n := 2) (Nat.le_of_ble_eq_true rfl)
  rw [lg_entry_eq]
  generalize (lg_sl ([.ref (b + P), .ref (b + B)]) ++ List.replicate (2 - (lg_sl ([.ref (b + P), .ref (b + B)])).length) Slot.unset).toArray = ls at hl ⊢
  have hl : lv_has ls 2 [(0, .ref (b + P)), (1, .ref (b + B))] := hl
  refine lv_aload_n hx hb dX3_copyFrom_0 rfl (lv_at hl 0 rfl) ?_
  refine lv_aload_n hx hb dX3_copyFrom_1 rfl (lv_at hl 1 rfl) ?_
  refine w_get hx hb hts inX3 hown hK hW (ltS hB) (Ent_S hB) rfl 0 (by decide) q_344 (fun _ h => h) rfl dX3_copyFrom_2 ?_
  refine w_put hx hb hts inX3 tyX3 tyX3_ok nmX3 hown hK hW hS (ltS hP) (Ent_S hP) rfl 0 (by decide) q_344 (fun _ h => h) rfl rfl rfl (Nat.le_of_ble_eq_true rfl) (setS hP (by decide)) dX3_copyFrom_5 (fun H locs hW hS => ?_)
  refine lv_aload_n hx hb dX3_copyFrom_8 rfl (lv_at hl 0 rfl) ?_
  refine lv_aload_n hx hb dX3_copyFrom_9 rfl (lv_at hl 1 rfl) ?_
  refine w_get hx hb hts inX3 hown hK hW (ltS hB) (Ent_S hB) rfl 1 (by decide) q_347 (fun _ h => h) rfl dX3_copyFrom_10 ?_
  refine w_put hx hb hts inX3 tyX3 tyX3_ok nmX3 hown hK hW hS (ltS hP) (Ent_S hP) rfl 1 (by decide) q_347 (fun _ h => h) rfl rfl rfl (Nat.le_of_ble_eq_true rfl) (setS hP (by decide)) dX3_copyFrom_13 (fun H locs hW hS => ?_)
  refine lv_aload_n hx hb dX3_copyFrom_16 rfl (lv_at hl 0 rfl) ?_
  refine lv_aload_n hx hb dX3_copyFrom_17 rfl (lv_at hl 1 rfl) ?_
  refine w_get hx hb hts inX3 hown hK hW (ltS hB) (Ent_S hB) rfl 2 (by decide) q_350 (fun _ h => h) rfl dX3_copyFrom_18 ?_
  refine w_put hx hb hts inX3 tyX3 tyX3_ok nmX3 hown hK hW hS (ltS hP) (Ent_S hP) rfl 2 (by decide) q_350 (fun _ h => h) rfl rfl rfl (Nat.le_of_ble_eq_true rfl) (setS hP (by decide)) dX3_copyFrom_21 (fun H locs hW hS => ?_)
  exact W.vret hx hb hr (fun t9 ht9 _ => ⟨⟨(u2 (u2 (u2 g P 0 (g B 0)) P 1 ((u2 g P 0 (g B 0)) B 1)) P 2 ((u2 (u2 g P 0 (g B 0)) P 1 ((u2 g P 0 (g B 0)) B 1)) B 2)), rfl, (by simp [f_cpS, u2_app, hPB]), by show wd X b _ w t9.heap; rw [ht9]; exact hW⟩, hS.F ht9⟩) hS.2.2 dX3_copyFrom_24

set_option maxHeartbeats 1000000 in
set_option maxRecDepth 100000 in
theorem metX0_tell (l : Launch) (X : CX) (b : Nat) (w : Int64) (g : S2) {P : Nat} (hP : isB P) (h2 : g P 2 = 0 ∨ g P 2 = 1) (k : Nat) (hk : k < 6) : Met l yX0_tell (wsg yX0_tell cX0_tell 2 (some .int)) ({ frames := 0, cells := 0, slots := 0, locals := 0 }) (Pre X b g w [.ref (b + P), .int (nI k)]) (QR (g P (k + 1))) 0 0 NO := by
  refine Met.ofW (cc := cX0_tell) (maxL := 2) (ret := (some .int)) (by decide) rfl ?_
  intro p e s m args below meth c s₁ Bo hml hv
  obtain ⟨rfl, hW, hK⟩ := hv
  have hx := Bo.exec
  have hb := Bo.bytes
  have hr := Bo.returns
  have hts := hts_of (atoms_spec (ws := wsg yX0_tell cX0_tell 2 (some .int)) Bo.pre)
  have hown : s.vm.findClass RX0 = some m.cls := findClass_of_methodNamed Bo.named
  have hlocks := Bo.notSynchronized
  have hl := lv_entry ([.ref (b + P), .int (nI k)]) (n := 2) (Nat.le_of_ble_eq_true rfl)
  rw [lg_entry_eq]
  generalize (lg_sl ([.ref (b + P), .int (nI k)]) ++ List.replicate (2 - (lg_sl ([.ref (b + P), .int (nI k)])).length) Slot.unset).toArray = ls at hl ⊢
  rcases (by omega : k = 0 ∨ k = 1 ∨ k = 2 ∨ k = 3 ∨ k = 4 ∨ k = 5) with rfl | rfl | rfl | rfl | rfl | rfl
  · have hl : lv_has ls 2 [(0, .ref (b + P)), (1, .int (nI 0))] := hl
    refine lv_iload_n hx hb dX0_tell_0 rfl (lv_at hl 1 rfl) ?_
    refine lv_tableIn (off := 35) (tgt := 36) hx hb dX0_tell_1 (by decide) (by decide) (by decide) (by decide) ?_
    refine lv_aload_n hx hb dX0_tell_36 rfl (lv_at hl 0 rfl) ?_
    refine w_get hx hb hts inX0 hown hK hW (ltB hP) (Ent_B hP) rfl 1 (by decide) q_367 (fun _ h => h) rfl dX0_tell_37 ?_
    exact W.iret (v := g P 1) hx hb hr (fun t9 ht9 _ => ⟨congrArg (fun z => Outcome.returned (some (Value.int z))) rfl, ht9⟩) (fun q hq => absurd hq List.not_mem_nil) dX0_tell_40
  · have hl : lv_has ls 2 [(0, .ref (b + P)), (1, .int (nI 1))] := hl
    refine lv_iload_n hx hb dX0_tell_0 rfl (lv_at hl 1 rfl) ?_
    refine lv_tableIn (off := 40) (tgt := 41) hx hb dX0_tell_1 (by decide) (by decide) (by decide) (by decide) ?_
    refine lv_aload_n hx hb dX0_tell_41 rfl (lv_at hl 0 rfl) ?_
    refine w_get hx hb hts inX0 hown hK hW (ltB hP) (Ent_B hP) rfl 2 (by decide) q_369 (fun _ h => h) rfl dX0_tell_42 ?_
    refine lv_if_eq (tgt := 52) hx hb dX0_tell_45 (by decide) (fun c_1 => ?_) (fun c_1 => ?_)
    · refine lv_iconst (v := 0) hx hb dX0_tell_52 (by decide) ?_
      exact W.iret (v := 0) hx hb hr (fun t9 ht9 _ => ⟨congrArg (fun z => Outcome.returned (some (Value.int z))) (by simp_all), ht9⟩) (fun q hq => absurd hq List.not_mem_nil) dX0_tell_53
    · refine lv_iconst (v := 1) hx hb dX0_tell_48 (by decide) ?_
      refine lv_goto (tgt := 53) hx hb dX0_tell_49 (by decide) ?_
      exact W.iret (v := 1) hx hb hr (fun t9 ht9 _ => ⟨congrArg (fun z => Outcome.returned (some (Value.int z))) (by simp_all), ht9⟩) (fun q hq => absurd hq List.not_mem_nil) dX0_tell_53
  · have hl : lv_has ls 2 [(0, .ref (b + P)), (1, .int (nI 2))] := hl
    refine lv_iload_n hx hb dX0_tell_0 rfl (lv_at hl 1 rfl) ?_
    refine lv_tableIn (off := 53) (tgt := 54) hx hb dX0_tell_1 (by decide) (by decide) (by decide) (by decide) ?_
    refine lv_aload_n hx hb dX0_tell_54 rfl (lv_at hl 0 rfl) ?_
    refine w_get hx hb hts inX0 hown hK hW (ltB hP) (Ent_B hP) rfl 3 (by decide) q_371 (fun _ h => h) rfl dX0_tell_55 ?_
    exact W.iret (v := g P 3) hx hb hr (fun t9 ht9 _ => ⟨congrArg (fun z => Outcome.returned (some (Value.int z))) rfl, ht9⟩) (fun q hq => absurd hq List.not_mem_nil) dX0_tell_58
  · have hl : lv_has ls 2 [(0, .ref (b + P)), (1, .int (nI 3))] := hl
    refine lv_iload_n hx hb dX0_tell_0 rfl (lv_at hl 1 rfl) ?_
    refine lv_tableIn (off := 58) (tgt := 59) hx hb dX0_tell_1 (by decide) (by decide) (by decide) (by decide) ?_
    refine lv_aload_n hx hb dX0_tell_59 rfl (lv_at hl 0 rfl) ?_
    refine w_get hx hb hts inX0 hown hK hW (ltB hP) (Ent_B hP) rfl 4 (by decide) q_373 (fun _ h => h) rfl dX0_tell_60 ?_
    exact W.iret (v := g P 4) hx hb hr (fun t9 ht9 _ => ⟨congrArg (fun z => Outcome.returned (some (Value.int z))) rfl, ht9⟩) (fun q hq => absurd hq List.not_mem_nil) dX0_tell_63
  · have hl : lv_has ls 2 [(0, .ref (b + P)), (1, .int (nI 4))] := hl
    refine lv_iload_n hx hb dX0_tell_0 rfl (lv_at hl 1 rfl) ?_
    refine lv_tableIn (off := 63) (tgt := 64) hx hb dX0_tell_1 (by decide) (by decide) (by decide) (by decide) ?_
    refine lv_aload_n hx hb dX0_tell_64 rfl (lv_at hl 0 rfl) ?_
    refine w_get hx hb hts inX0 hown hK hW (ltB hP) (Ent_B hP) rfl 5 (by decide) q_375 (fun _ h => h) rfl dX0_tell_65 ?_
    exact W.iret (v := g P 5) hx hb hr (fun t9 ht9 _ => ⟨congrArg (fun z => Outcome.returned (some (Value.int z))) rfl, ht9⟩) (fun q hq => absurd hq List.not_mem_nil) dX0_tell_68
  · have hl : lv_has ls 2 [(0, .ref (b + P)), (1, .int (nI 5))] := hl
    refine lv_iload_n hx hb dX0_tell_0 rfl (lv_at hl 1 rfl) ?_
    refine lv_tableOut (tgt := 69) hx hb dX0_tell_1 (by decide) (by decide) ?_
    refine lv_aload_n hx hb dX0_tell_69 rfl (lv_at hl 0 rfl) ?_
    refine w_get hx hb hts inX0 hown hK hW (ltB hP) (Ent_B hP) rfl 6 (by decide) q_377 (fun _ h => h) rfl dX0_tell_70 ?_
    exact W.iret (v := g P 6) hx hb hr (fun t9 ht9 _ => ⟨congrArg (fun z => Outcome.returned (some (Value.int z))) rfl, ht9⟩) (fun q hq => absurd hq List.not_mem_nil) dX0_tell_73

set_option maxHeartbeats 1000000 in
set_option maxRecDepth 100000 in
theorem metX2_tell (l : Launch) (X : CX) (b : Nat) (w : Int64) (g : S2) {P : Nat} (hP : isP P)  (k : Nat) (hk : k < 7) : Met l yX2_tell (wsg yX2_tell cX2_tell 2 (some .int)) ({ frames := 0, cells := 0, slots := 0, locals := 0 }) (Pre X b g w [.ref (b + P), .int (nI k)]) (QR (g P (k + 0))) 0 0 NO := by
  refine Met.ofW (cc := cX2_tell) (maxL := 2) (ret := (some .int)) (by decide) rfl ?_
  intro p e s m args below meth c s₁ Bo hml hv
  obtain ⟨rfl, hW, hK⟩ := hv
  have hx := Bo.exec
  have hb := Bo.bytes
  have hr := Bo.returns
  have hts := hts_of (atoms_spec (ws := wsg yX2_tell cX2_tell 2 (some .int)) Bo.pre)
  have hown : s.vm.findClass RX2 = some m.cls := findClass_of_methodNamed Bo.named
  have hlocks := Bo.notSynchronized
  have hl := lv_entry ([.ref (b + P), .int (nI k)]) (n := 2) (Nat.le_of_ble_eq_true rfl)
  rw [lg_entry_eq]
  generalize (lg_sl ([.ref (b + P), .int (nI k)]) ++ List.replicate (2 - (lg_sl ([.ref (b + P), .int (nI k)])).length) Slot.unset).toArray = ls at hl ⊢
  rcases (by omega : k = 0 ∨ k = 1 ∨ k = 2 ∨ k = 3 ∨ k = 4 ∨ k = 5 ∨ k = 6) with rfl | rfl | rfl | rfl | rfl | rfl | rfl
  · have hl : lv_has ls 2 [(0, .ref (b + P)), (1, .int (nI 0))] := hl
    refine lv_iload_n hx hb dX2_tell_0 rfl (lv_at hl 1 rfl) ?_
    refine lv_tableIn (off := 39) (tgt := 40) hx hb dX2_tell_1 (by decide) (by decide) (by decide) (by decide) ?_
    refine lv_aload_n hx hb dX2_tell_40 rfl (lv_at hl 0 rfl) ?_
    refine w_get hx hb hts inX2 hown hK hW (ltP hP) (Ent_P hP) rfl 0 (by decide) q_399 (fun _ h => h) rfl dX2_tell_41 ?_
    exact W.iret (v := g P 0) hx hb hr (fun t9 ht9 _ => ⟨congrArg (fun z => Outcome.returned (some (Value.int z))) rfl, ht9⟩) (fun q hq => absurd hq List.not_mem_nil) dX2_tell_44
  · have hl : lv_has ls 2 [(0, .ref (b + P)), (1, .int (nI 1))] := hl
    refine lv_iload_n hx hb dX2_tell_0 rfl (lv_at hl 1 rfl) ?_
    refine lv_tableIn (off := 44) (tgt := 45) hx hb dX2_tell_1 (by decide) (by decide) (by decide) (by decide) ?_
    refine lv_aload_n hx hb dX2_tell_45 rfl (lv_at hl 0 rfl) ?_
    refine w_get hx hb hts inX2 hown hK hW (ltP hP) (Ent_P hP) rfl 1 (by decide) q_402 (fun _ h => h) rfl dX2_tell_46 ?_
    exact W.iret (v := g P 1) hx hb hr (fun t9 ht9 _ => ⟨congrArg (fun z => Outcome.returned (some (Value.int z))) rfl, ht9⟩) (fun q hq => absurd hq List.not_mem_nil) dX2_tell_49
  · have hl : lv_has ls 2 [(0, .ref (b + P)), (1, .int (nI 2))] := hl
    refine lv_iload_n hx hb dX2_tell_0 rfl (lv_at hl 1 rfl) ?_
    refine lv_tableIn (off := 49) (tgt := 50) hx hb dX2_tell_1 (by decide) (by decide) (by decide) (by decide) ?_
    refine lv_aload_n hx hb dX2_tell_50 rfl (lv_at hl 0 rfl) ?_
    refine w_get hx hb hts inX2 hown hK hW (ltP hP) (Ent_P hP) rfl 2 (by decide) q_405 (fun _ h => h) rfl dX2_tell_51 ?_
    exact W.iret (v := g P 2) hx hb hr (fun t9 ht9 _ => ⟨congrArg (fun z => Outcome.returned (some (Value.int z))) rfl, ht9⟩) (fun q hq => absurd hq List.not_mem_nil) dX2_tell_54
  · have hl : lv_has ls 2 [(0, .ref (b + P)), (1, .int (nI 3))] := hl
    refine lv_iload_n hx hb dX2_tell_0 rfl (lv_at hl 1 rfl) ?_
    refine lv_tableIn (off := 54) (tgt := 55) hx hb dX2_tell_1 (by decide) (by decide) (by decide) (by decide) ?_
    refine lv_aload_n hx hb dX2_tell_55 rfl (lv_at hl 0 rfl) ?_
    refine w_get hx hb hts inX2 hown hK hW (ltP hP) (Ent_P hP) rfl 3 (by decide) q_407 (fun _ h => h) rfl dX2_tell_56 ?_
    exact W.iret (v := g P 3) hx hb hr (fun t9 ht9 _ => ⟨congrArg (fun z => Outcome.returned (some (Value.int z))) rfl, ht9⟩) (fun q hq => absurd hq List.not_mem_nil) dX2_tell_59
  · have hl : lv_has ls 2 [(0, .ref (b + P)), (1, .int (nI 4))] := hl
    refine lv_iload_n hx hb dX2_tell_0 rfl (lv_at hl 1 rfl) ?_
    refine lv_tableIn (off := 59) (tgt := 60) hx hb dX2_tell_1 (by decide) (by decide) (by decide) (by decide) ?_
    refine lv_aload_n hx hb dX2_tell_60 rfl (lv_at hl 0 rfl) ?_
    refine w_get hx hb hts inX2 hown hK hW (ltP hP) (Ent_P hP) rfl 4 (by decide) q_408 (fun _ h => h) rfl dX2_tell_61 ?_
    exact W.iret (v := g P 4) hx hb hr (fun t9 ht9 _ => ⟨congrArg (fun z => Outcome.returned (some (Value.int z))) rfl, ht9⟩) (fun q hq => absurd hq List.not_mem_nil) dX2_tell_64
  · have hl : lv_has ls 2 [(0, .ref (b + P)), (1, .int (nI 5))] := hl
    refine lv_iload_n hx hb dX2_tell_0 rfl (lv_at hl 1 rfl) ?_
    refine lv_tableIn (off := 64) (tgt := 65) hx hb dX2_tell_1 (by decide) (by decide) (by decide) (by decide) ?_
    refine lv_aload_n hx hb dX2_tell_65 rfl (lv_at hl 0 rfl) ?_
    refine w_get hx hb hts inX2 hown hK hW (ltP hP) (Ent_P hP) rfl 5 (by decide) q_410 (fun _ h => h) rfl dX2_tell_66 ?_
    exact W.iret (v := g P 5) hx hb hr (fun t9 ht9 _ => ⟨congrArg (fun z => Outcome.returned (some (Value.int z))) rfl, ht9⟩) (fun q hq => absurd hq List.not_mem_nil) dX2_tell_69
  · have hl : lv_has ls 2 [(0, .ref (b + P)), (1, .int (nI 6))] := hl
    refine lv_iload_n hx hb dX2_tell_0 rfl (lv_at hl 1 rfl) ?_
    refine lv_tableOut (tgt := 70) hx hb dX2_tell_1 (by decide) (by decide) ?_
    refine lv_aload_n hx hb dX2_tell_70 rfl (lv_at hl 0 rfl) ?_
    refine w_get hx hb hts inX2 hown hK hW (ltP hP) (Ent_P hP) rfl 6 (by decide) q_412 (fun _ h => h) rfl dX2_tell_71 ?_
    exact W.iret (v := g P 6) hx hb hr (fun t9 ht9 _ => ⟨congrArg (fun z => Outcome.returned (some (Value.int z))) rfl, ht9⟩) (fun q hq => absurd hq List.not_mem_nil) dX2_tell_74
end
section
set_option maxHeartbeats 1000000 in
set_option maxRecDepth 100000 in
theorem metX1_stopAt (l : Launch) (X : CX) (b : Nat) (w : Int64) (g : S2) {o n : Nat} (ho : isL o) {x : Int32} (hxn : x = nI n) (hn : n < 2000) : Met l yX1_stopAt (wsg yX1_stopAt cX1_stopAt 3 (some (.object "BusStage$Stop"))) ({ frames := 0, cells := 0, slots := 0, locals := 0 }) (Pre X b g w [.ref (b + o), .int x]) (QRr (b + (o + 4 + n % 10))) 0 0 NO := by
  refine Met.ofW (cc := cX1_stopAt) (maxL := 3) (ret := (some (.object "BusStage$Stop"))) (by decide) rfl ?_
  intro p e s m args below meth c s₁ Bo hml hv
  obtain ⟨rfl, hW, hK⟩ := hv
  have hx := Bo.exec
  have hb := Bo.bytes
  have hr := Bo.returns
  have hts := hts_of (atoms_spec (ws := wsg yX1_stopAt cX1_stopAt 3 (some (.object "BusStage$Stop"))) Bo.pre)
  have hown : s.vm.findClass RX1 = some m.cls := findClass_of_methodNamed Bo.named
  have hlocks := Bo.notSynchronized
  have hl := lv_entry ([.ref (b + o), .int x]) (n := 3) (Nat.le_of_ble_eq_true rfl)
  rw [lg_entry_eq]
  generalize (lg_sl ([.ref (b + o), .int x]) ++ List.replicate (3 - (lg_sl ([.ref (b + o), .int x])).length) Slot.unset).toArray = ls at hl ⊢
  have hl : lv_has ls 3 [(0, .ref (b + o)), (1, .int x)] := hl
  refine lv_iload_n hx hb dX1_stopAt_0 rfl (lv_at hl 1 rfl) ?_
  refine lv_bipush (v := 10) hx hb dX1_stopAt_1 (by decide) ?_
  refine lv_irem hx hb dX1_stopAt_3 (by decide) ?_
  refine lv_istore_n (lv' := [(2, .int (x - x / 10 * 10)), (0, .ref (b + o)), (1, .int x)]) hx hb dX1_stopAt_4 rfl hl (by decide) rfl (fun ls hl => ?_)
  refine lv_aload_n hx hb dX1_stopAt_5 rfl (lv_at hl 1 rfl) ?_
  refine w_get hx hb hts inX1 hown hK hW (ltL ho) (Ent_L ho) rfl 0 (by decide) q_432 (fun _ h => h) rfl dX1_stopAt_6 ?_
  refine lv_iload_n hx hb dX1_stopAt_9 rfl (lv_at hl 0 rfl) ?_
  refine lv_if_ge (tgt := 20) hx hb dX1_stopAt_10 (by decide) (fun c_1 => ?_) (fun c_1 => False.elim ((fun q => q (by rw [hxn, show nI n - nI n / 10 * 10 = nI (n % 10) from rem10_nI (by omega)]; exact nI_pos' (by omega))) c_1))
  refine lv_iload_n hx hb dX1_stopAt_20 rfl (lv_at hl 0 rfl) ?_
  refine w_aldS hx hb hK hW ho (n % 10) (by rw [hxn]; exact rem10_nI (by omega)) (Nat.mod_lt _ (by decide)) dX1_stopAt_21 ?_
  exact W.aret (v := .ref (b + (o + 4 + n % 10))) hx hb hr (Or.inl ⟨_, rfl⟩) (Or.inr ⟨_, rfl⟩) (fun t9 ht9 _ => ⟨congrArg (fun z => Outcome.returned (some (Value.ref z))) rfl, ht9⟩) (fun q hq => absurd hq List.not_mem_nil) dX1_stopAt_22

set_option maxHeartbeats 1000000 in
set_option maxRecDepth 100000 in
theorem metX1_fareBetween (l : Launch) (X : CX) (b : Nat) (w : Int64) (g : S2) {o : Nat} (ho : isL o) {x y : Int32} (hx0 : D10 x) (hy0 : D10 y) : Met l yX1_fareBetween (wsg yX1_fareBetween cX1_fareBetween 6 (some .int)) ({ frames := 1, cells := 0, slots := 0, locals := 22 }) (Pre X b g w [.ref (b + o), .int x, .int y]) (QR (f_fareI (stg g o) x y)) 0 0 NO := by
  refine Met.ofW (cc := cX1_fareBetween) (maxL := 6) (ret := (some .int)) (by decide) rfl ?_
  intro p e s m args below meth c s₁ Bo hml hv
  obtain ⟨rfl, hW, hK⟩ := hv
  have hx := Bo.exec
  have hb := Bo.bytes
  have hr := Bo.returns
  have hts := hts_of (atoms_spec (ws := wsg yX1_fareBetween cX1_fareBetween 6 (some .int)) Bo.pre)
  have hown : s.vm.findClass RX1 = some m.cls := findClass_of_methodNamed Bo.named
  have hlocks := Bo.notSynchronized
  have hl := lv_entry ([.ref (b + o), .int x, .int y]) (n := 6) (Nat.le_of_ble_eq_true rfl)
  rw [lg_entry_eq]
  generalize (lg_sl ([.ref (b + o), .int x, .int y]) ++ List.replicate (6 - (lg_sl ([.ref (b + o), .int x, .int y])).length) Slot.unset).toArray = ls at hl ⊢
  obtain ⟨a0, ha, hxa⟩ := hx0
  obtain ⟨c0, hc, hyc⟩ := hy0
  have hfin : f_fareI (stg g o) x y = f_fare (stg g o) a0 c0 := by rw [hxa, hyc]; unfold f_fareI; rw [cl_nI rfl ha (by omega), cl_nI rfl hc (by omega)]
  rcases Nat.lt_trichotomy a0 c0 with hac | hac | hac
  · have hl : lv_has ls 6 [(0, .ref (b + o)), (1, .int x), (2, .int y)] := hl
    refine lv_iload_n hx hb dX1_fareBetween_0 rfl (lv_at hl 1 rfl) ?_
    refine lv_iload_n hx hb dX1_fareBetween_1 rfl (lv_at hl 2 rfl) ?_
    refine lv_icmp_ne (tgt := 7) hx hb dX1_fareBetween_2 (by decide) (fun c_1 => ?_) (fun c_1 => False.elim ((show ¬ x = y from fun q => absurd ((nI_eq (by omega) (by omega)).mp (hxa.symm.trans (q.trans hyc))) (by omega)) c_1))
    refine lv_iconst (v := 2) hx hb dX1_fareBetween_7 (by decide) ?_
    refine lv_istore_n (lv' := [(3, .int 2), (0, .ref (b + o)), (1, .int x), (2, .int y)]) hx hb dX1_fareBetween_8 rfl hl (by decide) rfl (fun ls hl => ?_)
    refine lv_iload_n hx hb dX1_fareBetween_9 rfl (lv_at hl 2 rfl) ?_
    refine lv_iload_n hx hb dX1_fareBetween_10 rfl (lv_at hl 3 rfl) ?_
    refine lv_icmp_ge (tgt := 18) hx hb dX1_fareBetween_11 (by decide) (fun c_2 => absurd c_2 (show ¬ y ≤ x from fun q => absurd (br_le hyc hxa (by omega) (by omega) q) (by omega))) (fun c_2 => ?_)
    refine lv_iload_n hx hb dX1_fareBetween_14 rfl (lv_at hl 3 rfl) ?_
    refine lv_goto (tgt := 22) hx hb dX1_fareBetween_15 (by decide) ?_
    refine w_top (y := nI (a0 + (c0 - a0))) (hyc.trans (by rw [show a0 + (c0 - a0) = c0 by omega])) ?_
    refine lv_istore (lv' := [(4, .int (nI (a0 + (c0 - a0)))), (3, .int 2), (0, .ref (b + o)), (1, .int x), (2, .int y)]) hx hb dX1_fareBetween_22 hl (by decide) rfl (fun ls hl => ?_)
    refine lv_iload_n hx hb dX1_fareBetween_24 rfl (lv_at hl 3 rfl) ?_
    refine w_top (y := nI (a0 + 0)) hxa ?_
    refine lv_istore (lv' := [(5, .int (nI (a0 + 0))), (4, .int (nI (a0 + (c0 - a0)))), (3, .int 2), (0, .ref (b + o)), (1, .int x), (2, .int y)]) hx hb dX1_fareBetween_25 hl (by decide) rfl (fun ls hl => ?_)
    refine w_loopR (σ := Int32) ((c0 - a0)) (fun i x9 => x9 = nI (2 + f_cnt (stg g o) a0 i)) (fun i x9 => [(0, .ref (b + o)), (1, .int (x)), (2, .int (y)), (3, .int (x9)), (4, .int (nI (a0 + (c0 - a0)))), (5, .int (nI (a0 + i)))]) 0 (2) (Nat.zero_le _) rfl (lv_sub hl [3, 4, 5, 2, 1, 0] rfl) ?_
    clear hl
    intro i pr ls hi_i hI hl ih_i
    replace hl : lv_has ls 6 [(0, .ref (b + o)), (1, .int x), (2, .int y), (3, .int pr), (4, .int (nI (a0 + (c0 - a0)))), (5, .int (nI (a0 + i)))] := hl
    replace hI : pr = nI (2 + f_cnt (stg g o) a0 i) := hI
    refine lv_iload hx hb dX1_fareBetween_27 (lv_at hl 5 rfl) ?_
    refine lv_iload hx hb dX1_fareBetween_29 (lv_at hl 4 rfl) ?_
    refine lv_icmp_ge (tgt := 66) hx hb dX1_fareBetween_31 (by decide) (fun c_3 => ?_) (fun c_3 => ?_)
    · have hin := br_le rfl rfl (by omega) (by omega) c_3
      obtain rfl : i = (c0 - a0) := by omega
      refine lv_iload_n hx hb dX1_fareBetween_66 rfl (lv_at hl 3 rfl) ?_
      exact W.iret (v := pr) hx hb hr (fun t9 ht9 _ => ⟨congrArg (fun z => Outcome.returned (some (Value.int z))) (by rw [hfin]; unfold f_fare; rw [if_neg (by omega), if_pos hac]; exact hI), ht9⟩) (fun q hq => absurd hq List.not_mem_nil) dX1_fareBetween_67
    · have hlt : i < (c0 - a0) := by have := br_nle rfl rfl (by omega) (by omega) c_3; omega
      refine lv_aload_n hx hb dX1_fareBetween_34 rfl (lv_at hl 0 rfl) ?_
      refine lv_iload hx hb dX1_fareBetween_35 (lv_at hl 5 rfl) ?_
      refine k_Rr (c_V0 ⟨hx, hb, hml, hown, hts⟩ (metX1_stopAt l X b w g (n := a0 + i) ho (x := (nI (a0 + i))) rfl (by omega)) hK hW (ltL ho) (Ent_L ho) rfl q_151 q_110 q_111 q_2 q_112 hX1_stopAt ⟨Nat.le_of_ble_eq_true rfl, Nat.le_of_ble_eq_true rfl, rfl, rfl⟩ rfl dX1_fareBetween_37 rfl hl.1 (Nat.le_of_ble_eq_true rfl) ⟨Nat.le_of_ble_eq_true rfl, Nat.le_of_ble_eq_true rfl⟩) ?_
      refine w_get hx hb hts inX3 hown hK hW (ltS (isS_of ho (Nat.mod_lt _ (by decide)))) (Ent_S (isS_of ho (Nat.mod_lt _ (by decide)))) rfl 1 (by decide) q_349 (fun _ h => h) rfl dX1_fareBetween_40 ?_
      refine lv_aload_n hx hb dX1_fareBetween_43 rfl (lv_at hl 0 rfl) ?_
      refine lv_iload hx hb dX1_fareBetween_44 (lv_at hl 5 rfl) ?_
      refine lv_iconst (v := 1) hx hb dX1_fareBetween_46 (by decide) ?_
      refine lv_iadd hx hb dX1_fareBetween_47 ?_
      refine k_Rr (c_V0 ⟨hx, hb, hml, hown, hts⟩ (metX1_stopAt l X b w g (n := a0 + i + 1) ho (x := ((nI (a0 + i)) + 1)) (nI_1 _) (by omega)) hK hW (ltL ho) (Ent_L ho) rfl q_151 q_110 q_111 q_2 q_112 hX1_stopAt ⟨Nat.le_of_ble_eq_true rfl, Nat.le_of_ble_eq_true rfl, rfl, rfl⟩ rfl dX1_fareBetween_48 rfl hl.1 (Nat.le_of_ble_eq_true rfl) ⟨Nat.le_of_ble_eq_true rfl, Nat.le_of_ble_eq_true rfl⟩) ?_
      refine w_get hx hb hts inX3 hown hK hW (ltS (isS_of ho (Nat.mod_lt _ (by decide)))) (Ent_S (isS_of ho (Nat.mod_lt _ (by decide)))) rfl 1 (by decide) q_349 (fun _ h => h) rfl dX1_fareBetween_51 ?_
      refine lv_icmp_eq (tgt := 60) hx hb dX1_fareBetween_54 (by decide) (fun c_4 => ?_) (fun c_4 => ?_)
      · refine lv_iinc (v := nI (a0 + (i + 1))) (lv' := [(5, .int (nI (a0 + (i + 1)))), (0, .ref (b + o)), (1, .int x), (2, .int y), (3, .int pr), (4, .int (nI (a0 + (c0 - a0))))]) hx hb dX1_fareBetween_60 hl (k := 5) rfl ((by rw [← Nat.add_assoc, ← nI_1]; rfl)) (by decide) rfl (fun ls hl => ?_)
        refine lv_goto (tgt := 27) hx hb dX1_fareBetween_63 (by decide) ?_
        exact ih_i hlt (pr) _ (by show pr = nI (2 + f_cnt (stg g o) a0 (i + 1)); unfold f_cnt stg; rw [if_pos c_4, hI]; rfl) (lv_sub hl [1, 2, 3, 4, 5, 0] rfl)
      · refine lv_iinc (v := pr + 1) (lv' := [(3, .int (pr + 1)), (0, .ref (b + o)), (1, .int x), (2, .int y), (4, .int (nI (a0 + (c0 - a0)))), (5, .int (nI (a0 + i)))]) hx hb dX1_fareBetween_57 hl (k := 3) rfl (rfl) (by decide) rfl (fun ls hl => ?_)
        refine lv_iinc (v := nI (a0 + (i + 1))) (lv' := [(5, .int (nI (a0 + (i + 1)))), (3, .int (pr + 1)), (0, .ref (b + o)), (1, .int x), (2, .int y), (4, .int (nI (a0 + (c0 - a0))))]) hx hb dX1_fareBetween_60 hl (k := 5) rfl ((by rw [← Nat.add_assoc, ← nI_1]; rfl)) (by decide) rfl (fun ls hl => ?_)
        refine lv_goto (tgt := 27) hx hb dX1_fareBetween_63 (by decide) ?_
        exact ih_i hlt (pr + 1) _ (by show pr + 1 = nI (2 + f_cnt (stg g o) a0 (i + 1)); unfold f_cnt stg; rw [if_neg c_4, hI]; exact nI_1 _) (lv_sub hl [2, 3, 4, 1, 5, 0] rfl)
  · have hl : lv_has ls 6 [(0, .ref (b + o)), (1, .int x), (2, .int y)] := hl
    refine lv_iload_n hx hb dX1_fareBetween_0 rfl (lv_at hl 1 rfl) ?_
    refine lv_iload_n hx hb dX1_fareBetween_1 rfl (lv_at hl 2 rfl) ?_
    refine lv_icmp_ne (tgt := 7) hx hb dX1_fareBetween_2 (by decide) (fun c_1 => absurd c_1 (fun q => q (by rw [hxa, hyc, hac]))) (fun c_1 => ?_)
    refine lv_iconst (v := 0) hx hb dX1_fareBetween_5 (by decide) ?_
    exact W.iret (v := 0) hx hb hr (fun t9 ht9 _ => ⟨congrArg (fun z => Outcome.returned (some (Value.int z))) (by rw [hfin]; unfold f_fare; rw [if_pos hac]), ht9⟩) (fun q hq => absurd hq List.not_mem_nil) dX1_fareBetween_6
  · have hl : lv_has ls 6 [(0, .ref (b + o)), (1, .int x), (2, .int y)] := hl
    refine lv_iload_n hx hb dX1_fareBetween_0 rfl (lv_at hl 1 rfl) ?_
    refine lv_iload_n hx hb dX1_fareBetween_1 rfl (lv_at hl 2 rfl) ?_
    refine lv_icmp_ne (tgt := 7) hx hb dX1_fareBetween_2 (by decide) (fun c_1 => ?_) (fun c_1 => False.elim ((show ¬ x = y from fun q => absurd ((nI_eq (by omega) (by omega)).mp (hxa.symm.trans (q.trans hyc))) (by omega)) c_1))
    refine lv_iconst (v := 2) hx hb dX1_fareBetween_7 (by decide) ?_
    refine lv_istore_n (lv' := [(3, .int 2), (0, .ref (b + o)), (1, .int x), (2, .int y)]) hx hb dX1_fareBetween_8 rfl hl (by decide) rfl (fun ls hl => ?_)
    refine lv_iload_n hx hb dX1_fareBetween_9 rfl (lv_at hl 2 rfl) ?_
    refine lv_iload_n hx hb dX1_fareBetween_10 rfl (lv_at hl 3 rfl) ?_
    refine lv_icmp_ge (tgt := 18) hx hb dX1_fareBetween_11 (by decide) (fun c_2 => ?_) (fun c_2 => False.elim ((fun q => q (by rw [hyc, hxa]; exact nI_le (by omega) (by omega))) c_2))
    refine lv_iload_n hx hb dX1_fareBetween_18 rfl (lv_at hl 3 rfl) ?_
    refine lv_bipush (v := 10) hx hb dX1_fareBetween_19 (by decide) ?_
    refine lv_iadd hx hb dX1_fareBetween_21 ?_
    refine w_top (y := nI (a0 + (c0 + 10 - a0))) (by rw [hyc, show (10 : Int32) = nI 10 from rfl, nI_add]; rw [show a0 + (c0 + 10 - a0) = c0 + 10 by omega]) ?_
    refine lv_istore (lv' := [(4, .int (nI (a0 + (c0 + 10 - a0)))), (3, .int 2), (0, .ref (b + o)), (1, .int x), (2, .int y)]) hx hb dX1_fareBetween_22 hl (by decide) rfl (fun ls hl => ?_)
    refine lv_iload_n hx hb dX1_fareBetween_24 rfl (lv_at hl 3 rfl) ?_
    refine w_top (y := nI (a0 + 0)) hxa ?_
    refine lv_istore (lv' := [(5, .int (nI (a0 + 0))), (4, .int (nI (a0 + (c0 + 10 - a0)))), (3, .int 2), (0, .ref (b + o)), (1, .int x), (2, .int y)]) hx hb dX1_fareBetween_25 hl (by decide) rfl (fun ls hl => ?_)
    refine w_loopR (σ := Int32) ((c0 + 10 - a0)) (fun i x9 => x9 = nI (2 + f_cnt (stg g o) a0 i)) (fun i x9 => [(0, .ref (b + o)), (1, .int (x)), (2, .int (y)), (3, .int (x9)), (4, .int (nI (a0 + (c0 + 10 - a0)))), (5, .int (nI (a0 + i)))]) 0 (2) (Nat.zero_le _) rfl (lv_sub hl [3, 4, 5, 2, 1, 0] rfl) ?_
    clear hl
    intro i pr ls hi_i hI hl ih_i
    replace hl : lv_has ls 6 [(0, .ref (b + o)), (1, .int x), (2, .int y), (3, .int pr), (4, .int (nI (a0 + (c0 + 10 - a0)))), (5, .int (nI (a0 + i)))] := hl
    replace hI : pr = nI (2 + f_cnt (stg g o) a0 i) := hI
    refine lv_iload hx hb dX1_fareBetween_27 (lv_at hl 5 rfl) ?_
    refine lv_iload hx hb dX1_fareBetween_29 (lv_at hl 4 rfl) ?_
    refine lv_icmp_ge (tgt := 66) hx hb dX1_fareBetween_31 (by decide) (fun c_3 => ?_) (fun c_3 => ?_)
    · have hin := br_le rfl rfl (by omega) (by omega) c_3
      obtain rfl : i = (c0 + 10 - a0) := by omega
      refine lv_iload_n hx hb dX1_fareBetween_66 rfl (lv_at hl 3 rfl) ?_
      exact W.iret (v := pr) hx hb hr (fun t9 ht9 _ => ⟨congrArg (fun z => Outcome.returned (some (Value.int z))) (by rw [hfin]; unfold f_fare; rw [if_neg (by omega), if_neg (by omega)]; exact hI), ht9⟩) (fun q hq => absurd hq List.not_mem_nil) dX1_fareBetween_67
    · have hlt : i < (c0 + 10 - a0) := by have := br_nle rfl rfl (by omega) (by omega) c_3; omega
      refine lv_aload_n hx hb dX1_fareBetween_34 rfl (lv_at hl 0 rfl) ?_
      refine lv_iload hx hb dX1_fareBetween_35 (lv_at hl 5 rfl) ?_
      refine k_Rr (c_V0 ⟨hx, hb, hml, hown, hts⟩ (metX1_stopAt l X b w g (n := a0 + i) ho (x := (nI (a0 + i))) rfl (by omega)) hK hW (ltL ho) (Ent_L ho) rfl q_151 q_110 q_111 q_2 q_112 hX1_stopAt ⟨Nat.le_of_ble_eq_true rfl, Nat.le_of_ble_eq_true rfl, rfl, rfl⟩ rfl dX1_fareBetween_37 rfl hl.1 (Nat.le_of_ble_eq_true rfl) ⟨Nat.le_of_ble_eq_true rfl, Nat.le_of_ble_eq_true rfl⟩) ?_
      refine w_get hx hb hts inX3 hown hK hW (ltS (isS_of ho (Nat.mod_lt _ (by decide)))) (Ent_S (isS_of ho (Nat.mod_lt _ (by decide)))) rfl 1 (by decide) q_349 (fun _ h => h) rfl dX1_fareBetween_40 ?_
      refine lv_aload_n hx hb dX1_fareBetween_43 rfl (lv_at hl 0 rfl) ?_
      refine lv_iload hx hb dX1_fareBetween_44 (lv_at hl 5 rfl) ?_
      refine lv_iconst (v := 1) hx hb dX1_fareBetween_46 (by decide) ?_
      refine lv_iadd hx hb dX1_fareBetween_47 ?_
      refine k_Rr (c_V0 ⟨hx, hb, hml, hown, hts⟩ (metX1_stopAt l X b w g (n := a0 + i + 1) ho (x := ((nI (a0 + i)) + 1)) (nI_1 _) (by omega)) hK hW (ltL ho) (Ent_L ho) rfl q_151 q_110 q_111 q_2 q_112 hX1_stopAt ⟨Nat.le_of_ble_eq_true rfl, Nat.le_of_ble_eq_true rfl, rfl, rfl⟩ rfl dX1_fareBetween_48 rfl hl.1 (Nat.le_of_ble_eq_true rfl) ⟨Nat.le_of_ble_eq_true rfl, Nat.le_of_ble_eq_true rfl⟩) ?_
      refine w_get hx hb hts inX3 hown hK hW (ltS (isS_of ho (Nat.mod_lt _ (by decide)))) (Ent_S (isS_of ho (Nat.mod_lt _ (by decide)))) rfl 1 (by decide) q_349 (fun _ h => h) rfl dX1_fareBetween_51 ?_
      refine lv_icmp_eq (tgt := 60) hx hb dX1_fareBetween_54 (by decide) (fun c_4 => ?_) (fun c_4 => ?_)
      · refine lv_iinc (v := nI (a0 + (i + 1))) (lv' := [(5, .int (nI (a0 + (i + 1)))), (0, .ref (b + o)), (1, .int x), (2, .int y), (3, .int pr), (4, .int (nI (a0 + (c0 + 10 - a0))))]) hx hb dX1_fareBetween_60 hl (k := 5) rfl ((by rw [← Nat.add_assoc, ← nI_1]; rfl)) (by decide) rfl (fun ls hl => ?_)
        refine lv_goto (tgt := 27) hx hb dX1_fareBetween_63 (by decide) ?_
        exact ih_i hlt (pr) _ (by show pr = nI (2 + f_cnt (stg g o) a0 (i + 1)); unfold f_cnt stg; rw [if_pos c_4, hI]; rfl) (lv_sub hl [1, 2, 3, 4, 5, 0] rfl)
      · refine lv_iinc (v := pr + 1) (lv' := [(3, .int (pr + 1)), (0, .ref (b + o)), (1, .int x), (2, .int y), (4, .int (nI (a0 + (c0 + 10 - a0)))), (5, .int (nI (a0 + i)))]) hx hb dX1_fareBetween_57 hl (k := 3) rfl (rfl) (by decide) rfl (fun ls hl => ?_)
        refine lv_iinc (v := nI (a0 + (i + 1))) (lv' := [(5, .int (nI (a0 + (i + 1)))), (3, .int (pr + 1)), (0, .ref (b + o)), (1, .int x), (2, .int y), (4, .int (nI (a0 + (c0 + 10 - a0))))]) hx hb dX1_fareBetween_60 hl (k := 5) rfl ((by rw [← Nat.add_assoc, ← nI_1]; rfl)) (by decide) rfl (fun ls hl => ?_)
        refine lv_goto (tgt := 27) hx hb dX1_fareBetween_63 (by decide) ?_
        exact ih_i hlt (pr + 1) _ (by show pr + 1 = nI (2 + f_cnt (stg g o) a0 (i + 1)); unfold f_cnt stg; rw [if_neg c_4, hI]; exact nI_1 _) (lv_sub hl [2, 3, 4, 1, 5, 0] rfl)

set_option maxHeartbeats 1000000 in
set_option maxRecDepth 100000 in
theorem metX1_passengersIn (l : Launch) (X : CX) (b : Nat) (w : Int64) (g : S2) {o nb np : Nat} (ho : isL o) (h : OkL o nb np g) (k : Int32) : Met l yX1_passengersIn (wsg yX1_passengersIn cX1_passengersIn 4 (some .int)) ({ frames := 0, cells := 0, slots := 0, locals := 0 }) (Pre X b g w [.ref (b + o), .int k]) (QR (nI (cnB (fun q => decide (g (o + 20 + q) 0 = k)) np))) 0 0 NO := by
  refine Met.ofW (cc := cX1_passengersIn) (maxL := 4) (ret := (some .int)) (by decide) rfl ?_
  intro p e s m args below meth c s₁ Bo hml hv
  obtain ⟨rfl, hW, hK⟩ := hv
  have hx := Bo.exec
  have hb := Bo.bytes
  have hr := Bo.returns
  have hts := hts_of (atoms_spec (ws := wsg yX1_passengersIn cX1_passengersIn 4 (some .int)) Bo.pre)
  have hown : s.vm.findClass RX1 = some m.cls := findClass_of_methodNamed Bo.named
  have hlocks := Bo.notSynchronized
  have hl := lv_entry ([.ref (b + o), .int k]) (n := 4) (Nat.le_of_ble_eq_true rfl)
  rw [lg_entry_eq]
  generalize (lg_sl ([.ref (b + o), .int k]) ++ List.replicate (4 - (lg_sl ([.ref (b + o), .int k])).length) Slot.unset).toArray = ls at hl ⊢
  have hl : lv_has ls 4 [(0, .ref (b + o)), (1, .int k)] := hl
  obtain ⟨⟨h3, hnb⟩, ⟨h4, hnp⟩, hnum, hbus, hpas⟩ := id h
  refine lv_iconst (v := 0) hx hb dX1_passengersIn_0 (by decide) ?_
  refine lv_istore_n (lv' := [(2, .int 0), (0, .ref (b + o)), (1, .int k)]) hx hb dX1_passengersIn_1 rfl hl (by decide) rfl (fun ls hl => ?_)
  refine lv_iconst (v := 0) hx hb dX1_passengersIn_2 (by decide) ?_
  refine lv_istore_n (lv' := [(3, .int 0), (2, .int 0), (0, .ref (b + o)), (1, .int k)]) hx hb dX1_passengersIn_3 rfl hl (by decide) rfl (fun ls hl => ?_)
  refine w_loopR (σ := Int32) (np) (fun i x9 => x9 = nI (cnB (fun q => decide (g (o + 20 + q) 0 = k)) i)) (fun i x9 => [(0, .ref (b + o)), (1, .int (k)), (2, .int (x9)), (3, .int (nI i))]) 0 (0) (Nat.zero_le _) rfl (lv_sub hl [2, 3, 1, 0] rfl) ?_
  clear hl
  intro i found ls hi_i hI hl ih_i
  replace hl : lv_has ls 4 [(0, .ref (b + o)), (1, .int k), (2, .int found), (3, .int (nI i))] := hl
  replace hI : found = nI (cnB (fun q => decide (g (o + 20 + q) 0 = k)) i) := hI
  refine lv_iload_n hx hb dX1_passengersIn_4 rfl (lv_at hl 3 rfl) ?_
  refine lv_aload_n hx hb dX1_passengersIn_5 rfl (lv_at hl 0 rfl) ?_
  refine w_get hx hb hts inX1 hown hK hW (ltL ho) (Ent_L ho) rfl 4 (by decide) q_439 (fun _ h => h) rfl dX1_passengersIn_6 ?_
  refine lv_icmp_ge (tgt := 34) hx hb dX1_passengersIn_9 (by decide) (fun c_1 => ?_) (fun c_1 => ?_)
  · have hin := br_le h4 rfl (by omega) (by omega) c_1
    obtain rfl : np = i := by omega
    refine lv_iload_n hx hb dX1_passengersIn_34 rfl (lv_at hl 2 rfl) ?_
    exact W.iret (v := found) hx hb hr (fun t9 ht9 _ => ⟨congrArg (fun z => Outcome.returned (some (Value.int z))) hI, ht9⟩) (fun q hq => absurd hq List.not_mem_nil) dX1_passengersIn_35
  · have hlt := br_nle h4 rfl (by omega) (by omega) c_1
    refine lv_aload_n hx hb dX1_passengersIn_12 rfl (lv_at hl 0 rfl) ?_
    refine w_get hx hb hts inX1 hown hK hW (ltL ho) (Ent_L ho) rfl 2 (by decide) q_435 (fun _ h => h) rfl dX1_passengersIn_13 ?_
    refine lv_iload_n hx hb dX1_passengersIn_16 rfl (lv_at hl 3 rfl) ?_
    refine w_aldP hx hb hK hW ho i rfl (by omega) dX1_passengersIn_17 ?_
    refine w_get hx hb hts inX2 hown hK hW (ltP (isP_of ho (by omega))) (Ent_P (isP_of ho (by omega))) rfl 0 (by decide) q_401 (fun _ h => h) rfl dX1_passengersIn_18 ?_
    refine lv_iload_n hx hb dX1_passengersIn_21 rfl (lv_at hl 1 rfl) ?_
    refine lv_icmp_ne (tgt := 28) hx hb dX1_passengersIn_22 (by decide) (fun c_2 => ?_) (fun c_2 => ?_)
    · refine lv_iinc (v := nI (i + 1)) (lv' := [(3, .int (nI (i + 1))), (0, .ref (b + o)), (1, .int k), (2, .int found)]) hx hb dX1_passengersIn_28 hl (k := 3) rfl ((by rw [← nI_1]; rfl)) (by decide) rfl (fun ls hl => ?_)
      refine lv_goto (tgt := 4) hx hb dX1_passengersIn_31 (by decide) ?_
      exact ih_i hlt (found) _ (by show found = nI (cnB (fun q => decide (g (o + 20 + q) 0 = k)) (i + 1)); unfold cnB; rw [if_neg (fun z => c_2 (of_decide_eq_true z)), hI]; rfl) (lv_sub hl [1, 2, 3, 0] rfl)
    · refine lv_iinc (v := found + 1) (lv' := [(2, .int (found + 1)), (0, .ref (b + o)), (1, .int k), (3, .int (nI i))]) hx hb dX1_passengersIn_25 hl (k := 2) rfl (rfl) (by decide) rfl (fun ls hl => ?_)
      refine lv_iinc (v := nI (i + 1)) (lv' := [(3, .int (nI (i + 1))), (2, .int (found + 1)), (0, .ref (b + o)), (1, .int k)]) hx hb dX1_passengersIn_28 hl (k := 3) rfl ((by rw [← nI_1]; rfl)) (by decide) rfl (fun ls hl => ?_)
      refine lv_goto (tgt := 4) hx hb dX1_passengersIn_31 (by decide) ?_
      exact ih_i hlt (found + 1) _ (by show found + 1 = nI (cnB (fun q => decide (g (o + 20 + q) 0 = k)) (i + 1)); unfold cnB; rw [if_pos (decide_eq_true c_2), hI]; exact nI_1 _) (lv_sub hl [2, 3, 1, 0] rfl)

set_option maxHeartbeats 1000000 in
set_option maxRecDepth 100000 in
theorem metX1_waitingAt (l : Launch) (X : CX) (b : Nat) (w : Int64) (g : S2) {o nb np : Nat} (ho : isL o) (h : OkL o nb np g) (k : Int32) : Met l yX1_waitingAt (wsg yX1_waitingAt cX1_waitingAt 4 (some .int)) ({ frames := 1, cells := 0, slots := 0, locals := 21 }) (Pre X b g w [.ref (b + o), .int k]) (QR (nI (cnB (fun q => decide (g (o + 20 + q) 0 = 0 ∧ g (o + 20 + q) 1 = k)) np))) 0 0 NO := by
  refine Met.ofW (cc := cX1_waitingAt) (maxL := 4) (ret := (some .int)) (by decide) rfl ?_
  intro p e s m args below meth c s₁ Bo hml hv
  obtain ⟨rfl, hW, hK⟩ := hv
  have hx := Bo.exec
  have hb := Bo.bytes
  have hr := Bo.returns
  have hts := hts_of (atoms_spec (ws := wsg yX1_waitingAt cX1_waitingAt 4 (some .int)) Bo.pre)
  have hown : s.vm.findClass RX1 = some m.cls := findClass_of_methodNamed Bo.named
  have hlocks := Bo.notSynchronized
  have hl := lv_entry ([.ref (b + o), .int k]) (n := 4) (Nat.le_of_ble_eq_true rfl)
  rw [lg_entry_eq]
  generalize (lg_sl ([.ref (b + o), .int k]) ++ List.replicate (4 - (lg_sl ([.ref (b + o), .int k])).length) Slot.unset).toArray = ls at hl ⊢
  have hl : lv_has ls 4 [(0, .ref (b + o)), (1, .int k)] := hl
  obtain ⟨⟨h3, hnb⟩, ⟨h4, hnp⟩, hnum, hbus, hpas⟩ := id h
  refine lv_iconst (v := 0) hx hb dX1_waitingAt_0 (by decide) ?_
  refine lv_istore_n (lv' := [(2, .int 0), (0, .ref (b + o)), (1, .int k)]) hx hb dX1_waitingAt_1 rfl hl (by decide) rfl (fun ls hl => ?_)
  refine lv_iconst (v := 0) hx hb dX1_waitingAt_2 (by decide) ?_
  refine lv_istore_n (lv' := [(3, .int 0), (2, .int 0), (0, .ref (b + o)), (1, .int k)]) hx hb dX1_waitingAt_3 rfl hl (by decide) rfl (fun ls hl => ?_)
  refine w_loopR (σ := Int32) (np) (fun i x9 => x9 = nI (cnB (fun q => decide (g (o + 20 + q) 0 = 0 ∧ g (o + 20 + q) 1 = k)) i)) (fun i x9 => [(0, .ref (b + o)), (1, .int (k)), (2, .int (x9)), (3, .int (nI i))]) 0 (0) (Nat.zero_le _) rfl (lv_sub hl [2, 3, 1, 0] rfl) ?_
  clear hl
  intro i found ls hi_i hI hl ih_i
  replace hl : lv_has ls 4 [(0, .ref (b + o)), (1, .int k), (2, .int found), (3, .int (nI i))] := hl
  replace hI : found = nI (cnB (fun q => decide (g (o + 20 + q) 0 = 0 ∧ g (o + 20 + q) 1 = k)) i) := hI
  refine lv_iload_n hx hb dX1_waitingAt_4 rfl (lv_at hl 3 rfl) ?_
  refine lv_aload_n hx hb dX1_waitingAt_5 rfl (lv_at hl 0 rfl) ?_
  refine w_get hx hb hts inX1 hown hK hW (ltL ho) (Ent_L ho) rfl 4 (by decide) q_439 (fun _ h => h) rfl dX1_waitingAt_6 ?_
  refine lv_icmp_ge (tgt := 34) hx hb dX1_waitingAt_9 (by decide) (fun c_1 => ?_) (fun c_1 => ?_)
  · have hin := br_le h4 rfl (by omega) (by omega) c_1
    obtain rfl : np = i := by omega
    refine lv_iload_n hx hb dX1_waitingAt_34 rfl (lv_at hl 2 rfl) ?_
    exact W.iret (v := found) hx hb hr (fun t9 ht9 _ => ⟨congrArg (fun z => Outcome.returned (some (Value.int z))) hI, ht9⟩) (fun q hq => absurd hq List.not_mem_nil) dX1_waitingAt_35
  · have hlt := br_nle h4 rfl (by omega) (by omega) c_1
    refine lv_aload_n hx hb dX1_waitingAt_12 rfl (lv_at hl 0 rfl) ?_
    refine w_get hx hb hts inX1 hown hK hW (ltL ho) (Ent_L ho) rfl 2 (by decide) q_435 (fun _ h => h) rfl dX1_waitingAt_13 ?_
    refine lv_iload_n hx hb dX1_waitingAt_16 rfl (lv_at hl 3 rfl) ?_
    refine w_aldP hx hb hK hW ho i rfl (by omega) dX1_waitingAt_17 ?_
    refine lv_iload_n hx hb dX1_waitingAt_18 rfl (lv_at hl 1 rfl) ?_
    refine k_R (c_V0 ⟨hx, hb, hml, hown, hts⟩ (metX2_waitsAt l X b w g (isP_of ho (by omega)) k) hK hW (ltP (isP_of ho (by omega))) (Ent_P (isP_of ho (by omega))) rfl q_188 q_189 q_190 q_5 q_191 hX2_waitsAt ⟨Nat.le_of_ble_eq_true rfl, Nat.le_of_ble_eq_true rfl, rfl, rfl⟩ rfl dX1_waitingAt_19 rfl hl.1 (Nat.le_of_ble_eq_true rfl) ⟨Nat.le_of_ble_eq_true rfl, Nat.le_of_ble_eq_true rfl⟩) ?_
    refine lv_if_eq (tgt := 28) hx hb dX1_waitingAt_22 (by decide) (fun c_2 => ?_) (fun c_2 => ?_)
    · refine lv_iinc (v := nI (i + 1)) (lv' := [(3, .int (nI (i + 1))), (0, .ref (b + o)), (1, .int k), (2, .int found)]) hx hb dX1_waitingAt_28 hl (k := 3) rfl ((by rw [← nI_1]; rfl)) (by decide) rfl (fun ls hl => ?_)
      refine lv_goto (tgt := 4) hx hb dX1_waitingAt_31 (by decide) ?_
      exact ih_i hlt (found) _ (by show found = nI (cnB (fun q => decide (g (o + 20 + q) 0 = 0 ∧ g (o + 20 + q) 1 = k)) (i + 1)); unfold cnB; rw [if_neg (fun z => (ite0.mp c_2) (of_decide_eq_true z)), hI]; rfl) (lv_sub hl [1, 2, 3, 0] rfl)
    · refine lv_iinc (v := found + 1) (lv' := [(2, .int (found + 1)), (0, .ref (b + o)), (1, .int k), (3, .int (nI i))]) hx hb dX1_waitingAt_25 hl (k := 2) rfl (rfl) (by decide) rfl (fun ls hl => ?_)
      refine lv_iinc (v := nI (i + 1)) (lv' := [(3, .int (nI (i + 1))), (2, .int (found + 1)), (0, .ref (b + o)), (1, .int k)]) hx hb dX1_waitingAt_28 hl (k := 3) rfl ((by rw [← nI_1]; rfl)) (by decide) rfl (fun ls hl => ?_)
      refine lv_goto (tgt := 4) hx hb dX1_waitingAt_31 (by decide) ?_
      exact ih_i hlt (found + 1) _ (by show found + 1 = nI (cnB (fun q => decide (g (o + 20 + q) 0 = 0 ∧ g (o + 20 + q) 1 = k)) (i + 1)); unfold cnB; rw [if_pos (decide_eq_true (ite1.mp c_2)), hI]; exact nI_1 _) (lv_sub hl [2, 3, 1, 0] rfl)

set_option maxHeartbeats 1000000 in
set_option maxRecDepth 100000 in
theorem metX1_standingAt (l : Launch) (X : CX) (b : Nat) (w : Int64) (g : S2) {o nb np : Nat} (ho : isL o) (h : OkL o nb np g) (k : Int32) : Met l yX1_standingAt (wsg yX1_standingAt cX1_standingAt 4 (some .int)) ({ frames := 0, cells := 0, slots := 0, locals := 0 }) (Pre X b g w [.ref (b + o), .int k]) (QR (nI (cnB (fun q => decide (g (o + 14 + q) 2 = 0 ∧ g (o + 14 + q) 1 = k)) nb))) 0 0 NO := by
  refine Met.ofW (cc := cX1_standingAt) (maxL := 4) (ret := (some .int)) (by decide) rfl ?_
  intro p e s m args below meth c s₁ Bo hml hv
  obtain ⟨rfl, hW, hK⟩ := hv
  have hx := Bo.exec
  have hb := Bo.bytes
  have hr := Bo.returns
  have hts := hts_of (atoms_spec (ws := wsg yX1_standingAt cX1_standingAt 4 (some .int)) Bo.pre)
  have hown : s.vm.findClass RX1 = some m.cls := findClass_of_methodNamed Bo.named
  have hlocks := Bo.notSynchronized
  have hl := lv_entry ([.ref (b + o), .int k]) (n := 4) (Nat.le_of_ble_eq_true rfl)
  rw [lg_entry_eq]
  generalize (lg_sl ([.ref (b + o), .int k]) ++ List.replicate (4 - (lg_sl ([.ref (b + o), .int k])).length) Slot.unset).toArray = ls at hl ⊢
  have hl : lv_has ls 4 [(0, .ref (b + o)), (1, .int k)] := hl
  obtain ⟨⟨h3, hnb⟩, ⟨h4, hnp⟩, hnum, hbus, hpas⟩ := id h
  refine lv_iconst (v := 0) hx hb dX1_standingAt_0 (by decide) ?_
  refine lv_istore_n (lv' := [(2, .int 0), (0, .ref (b + o)), (1, .int k)]) hx hb dX1_standingAt_1 rfl hl (by decide) rfl (fun ls hl => ?_)
  refine lv_iconst (v := 0) hx hb dX1_standingAt_2 (by decide) ?_
  refine lv_istore_n (lv' := [(3, .int 0), (2, .int 0), (0, .ref (b + o)), (1, .int k)]) hx hb dX1_standingAt_3 rfl hl (by decide) rfl (fun ls hl => ?_)
  refine w_loopR (σ := Int32) (nb) (fun i x9 => x9 = nI (cnB (fun q => decide (g (o + 14 + q) 2 = 0 ∧ g (o + 14 + q) 1 = k)) i)) (fun i x9 => [(0, .ref (b + o)), (1, .int (k)), (2, .int (x9)), (3, .int (nI i))]) 0 (0) (Nat.zero_le _) rfl (lv_sub hl [2, 3, 1, 0] rfl) ?_
  clear hl
  intro i found ls hi_i hI hl ih_i
  replace hl : lv_has ls 4 [(0, .ref (b + o)), (1, .int k), (2, .int found), (3, .int (nI i))] := hl
  replace hI : found = nI (cnB (fun q => decide (g (o + 14 + q) 2 = 0 ∧ g (o + 14 + q) 1 = k)) i) := hI
  refine lv_iload_n hx hb dX1_standingAt_4 rfl (lv_at hl 3 rfl) ?_
  refine lv_aload_n hx hb dX1_standingAt_5 rfl (lv_at hl 0 rfl) ?_
  refine w_get hx hb hts inX1 hown hK hW (ltL ho) (Ent_L ho) rfl 3 (by decide) q_437 (fun _ h => h) rfl dX1_standingAt_6 ?_
  refine lv_icmp_ge (tgt := 46) hx hb dX1_standingAt_9 (by decide) (fun c_1 => ?_) (fun c_1 => ?_)
  · have hin := br_le h3 rfl (by omega) (by omega) c_1
    obtain rfl : nb = i := by omega
    refine lv_iload_n hx hb dX1_standingAt_46 rfl (lv_at hl 2 rfl) ?_
    exact W.iret (v := found) hx hb hr (fun t9 ht9 _ => ⟨congrArg (fun z => Outcome.returned (some (Value.int z))) hI, ht9⟩) (fun q hq => absurd hq List.not_mem_nil) dX1_standingAt_47
  · have hlt := br_nle h3 rfl (by omega) (by omega) c_1
    refine lv_aload_n hx hb dX1_standingAt_12 rfl (lv_at hl 0 rfl) ?_
    refine w_get hx hb hts inX1 hown hK hW (ltL ho) (Ent_L ho) rfl 1 (by decide) q_433 (fun _ h => h) rfl dX1_standingAt_13 ?_
    refine lv_iload_n hx hb dX1_standingAt_16 rfl (lv_at hl 3 rfl) ?_
    refine w_aldB hx hb hK hW ho i rfl (by omega) dX1_standingAt_17 ?_
    refine w_get hx hb hts inX0 hown hK hW (ltB (isB_of ho (by omega))) (Ent_B (isB_of ho (by omega))) rfl 2 (by decide) q_370 (fun _ h => h) rfl dX1_standingAt_18 ?_
    refine lv_if_ne (tgt := 40) hx hb dX1_standingAt_21 (by decide) (fun c_2 => ?_) (fun c_2 => ?_)
    · refine lv_iinc (v := nI (i + 1)) (lv' := [(3, .int (nI (i + 1))), (0, .ref (b + o)), (1, .int k), (2, .int found)]) hx hb dX1_standingAt_40 hl (k := 3) rfl ((by rw [← nI_1]; rfl)) (by decide) rfl (fun ls hl => ?_)
      refine lv_goto (tgt := 4) hx hb dX1_standingAt_43 (by decide) ?_
      exact ih_i hlt (found) _ (by show found = nI (cnB (fun q => decide (g (o + 14 + q) 2 = 0 ∧ g (o + 14 + q) 1 = k)) (i + 1)); unfold cnB; rw [if_neg (fun z => (fun z => c_2 z.1) (of_decide_eq_true z)), hI]; rfl) (lv_sub hl [1, 2, 3, 0] rfl)
    · refine lv_aload_n hx hb dX1_standingAt_24 rfl (lv_at hl 0 rfl) ?_
      refine w_get hx hb hts inX1 hown hK hW (ltL ho) (Ent_L ho) rfl 1 (by decide) q_433 (fun _ h => h) rfl dX1_standingAt_25 ?_
      refine lv_iload_n hx hb dX1_standingAt_28 rfl (lv_at hl 3 rfl) ?_
      refine w_aldB hx hb hK hW ho i rfl (by omega) dX1_standingAt_29 ?_
      refine w_get hx hb hts inX0 hown hK hW (ltB (isB_of ho (by omega))) (Ent_B (isB_of ho (by omega))) rfl 1 (by decide) q_368 (fun _ h => h) rfl dX1_standingAt_30 ?_
      refine lv_iload_n hx hb dX1_standingAt_33 rfl (lv_at hl 1 rfl) ?_
      refine lv_icmp_ne (tgt := 40) hx hb dX1_standingAt_34 (by decide) (fun c_3 => ?_) (fun c_3 => ?_)
      · refine lv_iinc (v := nI (i + 1)) (lv' := [(3, .int (nI (i + 1))), (0, .ref (b + o)), (1, .int k), (2, .int found)]) hx hb dX1_standingAt_40 hl (k := 3) rfl ((by rw [← nI_1]; rfl)) (by decide) rfl (fun ls hl => ?_)
        refine lv_goto (tgt := 4) hx hb dX1_standingAt_43 (by decide) ?_
        exact ih_i hlt (found) _ (by show found = nI (cnB (fun q => decide (g (o + 14 + q) 2 = 0 ∧ g (o + 14 + q) 1 = k)) (i + 1)); unfold cnB; rw [if_neg (fun z => (fun z => c_3 z.2) (of_decide_eq_true z)), hI]; rfl) (lv_sub hl [1, 2, 3, 0] rfl)
      · refine lv_iinc (v := found + 1) (lv' := [(2, .int (found + 1)), (0, .ref (b + o)), (1, .int k), (3, .int (nI i))]) hx hb dX1_standingAt_37 hl (k := 2) rfl (rfl) (by decide) rfl (fun ls hl => ?_)
        refine lv_iinc (v := nI (i + 1)) (lv' := [(3, .int (nI (i + 1))), (2, .int (found + 1)), (0, .ref (b + o)), (1, .int k)]) hx hb dX1_standingAt_40 hl (k := 3) rfl ((by rw [← nI_1]; rfl)) (by decide) rfl (fun ls hl => ?_)
        refine lv_goto (tgt := 4) hx hb dX1_standingAt_43 (by decide) ?_
        exact ih_i hlt (found + 1) _ (by show found + 1 = nI (cnB (fun q => decide (g (o + 14 + q) 2 = 0 ∧ g (o + 14 + q) 1 = k)) (i + 1)); unfold cnB; rw [if_pos (decide_eq_true ⟨c_2, c_3⟩), hI]; exact nI_1 _) (lv_sub hl [2, 3, 1, 0] rfl)

set_option maxHeartbeats 1000000 in
set_option maxRecDepth 100000 in
theorem metX1_allPaid (l : Launch) (X : CX) (b : Nat) (w : Int64) (g : S2) {o nb np : Nat} (ho : isL o) (h : OkL o nb np g) : Met l yX1_allPaid (wsg yX1_allPaid cX1_allPaid 3 (some .int)) ({ frames := 0, cells := 0, slots := 0, locals := 0 }) (Pre X b g w [.ref (b + o)]) (QR (sumF (fun q => g (o + 20 + q) 4) np)) 0 0 NO := by
  refine Met.ofW (cc := cX1_allPaid) (maxL := 3) (ret := (some .int)) (by decide) rfl ?_
  intro p e s m args below meth c s₁ Bo hml hv
  obtain ⟨rfl, hW, hK⟩ := hv
  have hx := Bo.exec
  have hb := Bo.bytes
  have hr := Bo.returns
  have hts := hts_of (atoms_spec (ws := wsg yX1_allPaid cX1_allPaid 3 (some .int)) Bo.pre)
  have hown : s.vm.findClass RX1 = some m.cls := findClass_of_methodNamed Bo.named
  have hlocks := Bo.notSynchronized
  have hl := lv_entry ([.ref (b + o)]) (n := 3) (Nat.le_of_ble_eq_true rfl)
  rw [lg_entry_eq]
  generalize (lg_sl ([.ref (b + o)]) ++ List.replicate (3 - (lg_sl ([.ref (b + o)])).length) Slot.unset).toArray = ls at hl ⊢
  have hl : lv_has ls 3 [(0, .ref (b + o))] := hl
  obtain ⟨⟨h3, hnb⟩, ⟨h4, hnp⟩, hnum, hbus, hpas⟩ := id h
  refine lv_iconst (v := 0) hx hb dX1_allPaid_0 (by decide) ?_
  refine lv_istore_n (lv' := [(1, .int 0), (0, .ref (b + o))]) hx hb dX1_allPaid_1 rfl hl (by decide) rfl (fun ls hl => ?_)
  refine lv_iconst (v := 0) hx hb dX1_allPaid_2 (by decide) ?_
  refine lv_istore_n (lv' := [(2, .int 0), (1, .int 0), (0, .ref (b + o))]) hx hb dX1_allPaid_3 rfl hl (by decide) rfl (fun ls hl => ?_)
  refine w_loopR (σ := Int32) (np) (fun i x9 => x9 = sumF (fun q => g (o + 20 + q) 4) i) (fun i x9 => [(0, .ref (b + o)), (1, .int (x9)), (2, .int (nI i))]) 0 (0) (Nat.zero_le _) rfl (lv_sub hl [2, 1, 0] rfl) ?_
  clear hl
  intro i sm ls hi_i hI hl ih_i
  replace hl : lv_has ls 3 [(0, .ref (b + o)), (1, .int sm), (2, .int (nI i))] := hl
  replace hI : sm = sumF (fun q => g (o + 20 + q) 4) i := hI
  refine lv_iload_n hx hb dX1_allPaid_4 rfl (lv_at hl 2 rfl) ?_
  refine lv_aload_n hx hb dX1_allPaid_5 rfl (lv_at hl 0 rfl) ?_
  refine w_get hx hb hts inX1 hown hK hW (ltL ho) (Ent_L ho) rfl 4 (by decide) q_439 (fun _ h => h) rfl dX1_allPaid_6 ?_
  refine lv_icmp_ge (tgt := 30) hx hb dX1_allPaid_9 (by decide) (fun c_1 => ?_) (fun c_1 => ?_)
  · have hin := br_le h4 rfl (by omega) (by omega) c_1
    obtain rfl : np = i := by omega
    refine lv_iload_n hx hb dX1_allPaid_30 rfl (lv_at hl 1 rfl) ?_
    exact W.iret (v := sm) hx hb hr (fun t9 ht9 _ => ⟨congrArg (fun z => Outcome.returned (some (Value.int z))) hI, ht9⟩) (fun q hq => absurd hq List.not_mem_nil) dX1_allPaid_31
  · have hlt := br_nle h4 rfl (by omega) (by omega) c_1
    refine lv_iload_n hx hb dX1_allPaid_12 rfl (lv_at hl 1 rfl) ?_
    refine lv_aload_n hx hb dX1_allPaid_13 rfl (lv_at hl 0 rfl) ?_
    refine w_get hx hb hts inX1 hown hK hW (ltL ho) (Ent_L ho) rfl 2 (by decide) q_435 (fun _ h => h) rfl dX1_allPaid_14 ?_
    refine lv_iload_n hx hb dX1_allPaid_17 rfl (lv_at hl 2 rfl) ?_
    refine w_aldP hx hb hK hW ho i rfl (by omega) dX1_allPaid_18 ?_
    refine w_get hx hb hts inX2 hown hK hW (ltP (isP_of ho (by omega))) (Ent_P (isP_of ho (by omega))) rfl 4 (by decide) q_409 (fun _ h => h) rfl dX1_allPaid_19 ?_
    refine lv_iadd hx hb dX1_allPaid_22 ?_
    refine lv_istore_n (lv' := [(1, .int (sm + (g (o + 20 + i) 4))), (0, .ref (b + o)), (2, .int (nI i))]) hx hb dX1_allPaid_23 rfl hl (by decide) rfl (fun ls hl => ?_)
    refine lv_iinc (v := nI (i + 1)) (lv' := [(2, .int (nI (i + 1))), (1, .int (sm + (g (o + 20 + i) 4))), (0, .ref (b + o))]) hx hb dX1_allPaid_24 hl (k := 2) rfl ((by rw [← nI_1]; rfl)) (by decide) rfl (fun ls hl => ?_)
    refine lv_goto (tgt := 4) hx hb dX1_allPaid_27 (by decide) ?_
    exact ih_i hlt (sm + (g (o + 20 + i) 4)) _ (by show sm + (g (o + 20 + i) 4) = sumF (fun q => g (o + 20 + q) 4) (i + 1); unfold sumF; rw [hI]) (lv_sub hl [2, 1, 0] rfl)

set_option maxHeartbeats 1000000 in
set_option maxRecDepth 100000 in
theorem metX1_allWaited (l : Launch) (X : CX) (b : Nat) (w : Int64) (g : S2) {o nb np : Nat} (ho : isL o) (h : OkL o nb np g) : Met l yX1_allWaited (wsg yX1_allWaited cX1_allWaited 3 (some .int)) ({ frames := 0, cells := 0, slots := 0, locals := 0 }) (Pre X b g w [.ref (b + o)]) (QR (sumF (fun q => g (o + 20 + q) 5) np)) 0 0 NO := by
  refine Met.ofW (cc := cX1_allWaited) (maxL := 3) (ret := (some .int)) (by decide) rfl ?_
  intro p e s m args below meth c s₁ Bo hml hv
  obtain ⟨rfl, hW, hK⟩ := hv
  have hx := Bo.exec
  have hb := Bo.bytes
  have hr := Bo.returns
  have hts := hts_of (atoms_spec (ws := wsg yX1_allWaited cX1_allWaited 3 (some .int)) Bo.pre)
  have hown : s.vm.findClass RX1 = some m.cls := findClass_of_methodNamed Bo.named
  have hlocks := Bo.notSynchronized
  have hl := lv_entry ([.ref (b + o)]) (n := 3) (Nat.le_of_ble_eq_true rfl)
  rw [lg_entry_eq]
  generalize (lg_sl ([.ref (b + o)]) ++ List.replicate (3 - (lg_sl ([.ref (b + o)])).length) Slot.unset).toArray = ls at hl ⊢
  have hl : lv_has ls 3 [(0, .ref (b + o))] := hl
  obtain ⟨⟨h3, hnb⟩, ⟨h4, hnp⟩, hnum, hbus, hpas⟩ := id h
  refine lv_iconst (v := 0) hx hb dX1_allWaited_0 (by decide) ?_
  refine lv_istore_n (lv' := [(1, .int 0), (0, .ref (b + o))]) hx hb dX1_allWaited_1 rfl hl (by decide) rfl (fun ls hl => ?_)
  refine lv_iconst (v := 0) hx hb dX1_allWaited_2 (by decide) ?_
  refine lv_istore_n (lv' := [(2, .int 0), (1, .int 0), (0, .ref (b + o))]) hx hb dX1_allWaited_3 rfl hl (by decide) rfl (fun ls hl => ?_)
  refine w_loopR (σ := Int32) (np) (fun i x9 => x9 = sumF (fun q => g (o + 20 + q) 5) i) (fun i x9 => [(0, .ref (b + o)), (1, .int (x9)), (2, .int (nI i))]) 0 (0) (Nat.zero_le _) rfl (lv_sub hl [2, 1, 0] rfl) ?_
  clear hl
  intro i sm ls hi_i hI hl ih_i
  replace hl : lv_has ls 3 [(0, .ref (b + o)), (1, .int sm), (2, .int (nI i))] := hl
  replace hI : sm = sumF (fun q => g (o + 20 + q) 5) i := hI
  refine lv_iload_n hx hb dX1_allWaited_4 rfl (lv_at hl 2 rfl) ?_
  refine lv_aload_n hx hb dX1_allWaited_5 rfl (lv_at hl 0 rfl) ?_
  refine w_get hx hb hts inX1 hown hK hW (ltL ho) (Ent_L ho) rfl 4 (by decide) q_439 (fun _ h => h) rfl dX1_allWaited_6 ?_
  refine lv_icmp_ge (tgt := 30) hx hb dX1_allWaited_9 (by decide) (fun c_1 => ?_) (fun c_1 => ?_)
  · have hin := br_le h4 rfl (by omega) (by omega) c_1
    obtain rfl : np = i := by omega
    refine lv_iload_n hx hb dX1_allWaited_30 rfl (lv_at hl 1 rfl) ?_
    exact W.iret (v := sm) hx hb hr (fun t9 ht9 _ => ⟨congrArg (fun z => Outcome.returned (some (Value.int z))) hI, ht9⟩) (fun q hq => absurd hq List.not_mem_nil) dX1_allWaited_31
  · have hlt := br_nle h4 rfl (by omega) (by omega) c_1
    refine lv_iload_n hx hb dX1_allWaited_12 rfl (lv_at hl 1 rfl) ?_
    refine lv_aload_n hx hb dX1_allWaited_13 rfl (lv_at hl 0 rfl) ?_
    refine w_get hx hb hts inX1 hown hK hW (ltL ho) (Ent_L ho) rfl 2 (by decide) q_435 (fun _ h => h) rfl dX1_allWaited_14 ?_
    refine lv_iload_n hx hb dX1_allWaited_17 rfl (lv_at hl 2 rfl) ?_
    refine w_aldP hx hb hK hW ho i rfl (by omega) dX1_allWaited_18 ?_
    refine w_get hx hb hts inX2 hown hK hW (ltP (isP_of ho (by omega))) (Ent_P (isP_of ho (by omega))) rfl 5 (by decide) q_411 (fun _ h => h) rfl dX1_allWaited_19 ?_
    refine lv_iadd hx hb dX1_allWaited_22 ?_
    refine lv_istore_n (lv' := [(1, .int (sm + (g (o + 20 + i) 5))), (0, .ref (b + o)), (2, .int (nI i))]) hx hb dX1_allWaited_23 rfl hl (by decide) rfl (fun ls hl => ?_)
    refine lv_iinc (v := nI (i + 1)) (lv' := [(2, .int (nI (i + 1))), (1, .int (sm + (g (o + 20 + i) 5))), (0, .ref (b + o))]) hx hb dX1_allWaited_24 hl (k := 2) rfl ((by rw [← nI_1]; rfl)) (by decide) rfl (fun ls hl => ?_)
    refine lv_goto (tgt := 4) hx hb dX1_allWaited_27 (by decide) ?_
    exact ih_i hlt (sm + (g (o + 20 + i) 5)) _ (by show sm + (g (o + 20 + i) 5) = sumF (fun q => g (o + 20 + q) 5) (i + 1); unfold sumF; rw [hI]) (lv_sub hl [2, 1, 0] rfl)
end
section
set_option maxHeartbeats 1000000 in
set_option maxRecDepth 100000 in
theorem metX1_bunchedPairs (l : Launch) (X : CX) (b : Nat) (w : Int64) (g : S2) {o nb np : Nat} (ho : isL o) (h : OkL o nb np g) : Met l yX1_bunchedPairs (wsg yX1_bunchedPairs cX1_bunchedPairs 4 (some .int)) ({ frames := 1, cells := 0, slots := 0, locals := 21 }) (Pre X b g w [.ref (b + o)]) (QR (nI (cnP (q_bu g o) nb nb))) 0 0 NO := by
  refine Met.ofW (cc := cX1_bunchedPairs) (maxL := 4) (ret := (some .int)) (by decide) rfl ?_
  intro p e s m args below meth c s₁ Bo hml hv
  obtain ⟨rfl, hW, hK⟩ := hv
  have hx := Bo.exec
  have hb := Bo.bytes
  have hr := Bo.returns
  have hts := hts_of (atoms_spec (ws := wsg yX1_bunchedPairs cX1_bunchedPairs 4 (some .int)) Bo.pre)
  have hown : s.vm.findClass RX1 = some m.cls := findClass_of_methodNamed Bo.named
  have hlocks := Bo.notSynchronized
  have hl := lv_entry ([.ref (b + o)]) (n := 4) (Nat.le_of_ble_eq_true rfl)
  rw [lg_entry_eq]
  generalize (lg_sl ([.ref (b + o)]) ++ List.replicate (4 - (lg_sl ([.ref (b + o)])).length) Slot.unset).toArray = ls at hl ⊢
  have hl : lv_has ls 4 [(0, .ref (b + o))] := hl
  obtain ⟨⟨h3, hnb⟩, ⟨h4, hnp⟩, hnum, hbus, hpas⟩ := id h
  refine lv_iconst (v := 0) hx hb dX1_bunchedPairs_0 (by decide) ?_
  refine lv_istore_n (lv' := [(1, .int 0), (0, .ref (b + o))]) hx hb dX1_bunchedPairs_1 rfl hl (by decide) rfl (fun ls hl => ?_)
  refine lv_iconst (v := 0) hx hb dX1_bunchedPairs_2 (by decide) ?_
  refine lv_istore_n (lv' := [(2, .int 0), (1, .int 0), (0, .ref (b + o))]) hx hb dX1_bunchedPairs_3 rfl hl (by decide) rfl (fun ls hl => ?_)
  refine w_loopR (σ := Int32) (nb) (fun i x9 => x9 = nI (cnP (q_bu g o) nb i)) (fun i x9 => [(0, .ref (b + o)), (1, .int (x9)), (2, .int (nI i))]) 0 (0) (Nat.zero_le _) rfl (lv_sub hl [2, 1, 0] rfl) ?_
  clear hl
  intro i pairs ls hi_i hI hl ih_i
  replace hl : lv_has ls 4 [(0, .ref (b + o)), (1, .int pairs), (2, .int (nI i))] := hl
  replace hI : pairs = nI (cnP (q_bu g o) nb i) := hI
  refine lv_iload_n hx hb dX1_bunchedPairs_4 rfl (lv_at hl 2 rfl) ?_
  refine lv_aload_n hx hb dX1_bunchedPairs_5 rfl (lv_at hl 0 rfl) ?_
  refine w_get hx hb hts inX1 hown hK hW (ltL ho) (Ent_L ho) rfl 3 (by decide) q_437 (fun _ h => h) rfl dX1_bunchedPairs_6 ?_
  refine lv_icmp_ge (tgt := 57) hx hb dX1_bunchedPairs_9 (by decide) (fun c_1 => ?_) (fun c_1 => ?_)
  · have hin := br_le h3 rfl (by omega) (by omega) c_1
    obtain rfl : nb = i := by omega
    refine lv_iload_n hx hb dX1_bunchedPairs_57 rfl (lv_at hl 1 rfl) ?_
    exact W.iret (v := pairs) hx hb hr (fun t9 ht9 _ => ⟨congrArg (fun z => Outcome.returned (some (Value.int z))) hI, ht9⟩) (fun q hq => absurd hq List.not_mem_nil) dX1_bunchedPairs_58
  · have hlt := br_nle h3 rfl (by omega) (by omega) c_1
    refine lv_iload_n hx hb dX1_bunchedPairs_12 rfl (lv_at hl 2 rfl) ?_
    refine lv_iconst (v := 1) hx hb dX1_bunchedPairs_13 (by decide) ?_
    refine lv_iadd hx hb dX1_bunchedPairs_14 ?_
    refine w_top (y := nI (i + 1 + 0)) (nI_1 i) ?_
    refine lv_istore_n (lv' := [(3, .int (nI (i + 1 + 0))), (0, .ref (b + o)), (1, .int pairs), (2, .int (nI i))]) hx hb dX1_bunchedPairs_15 rfl hl (by decide) rfl (fun ls hl => ?_)
    refine w_loopR (σ := Int32) (nb - (i + 1)) (fun d x9 => x9 = nI (cnP (q_bu g o) nb i + cnB (fun d => q_bu g o i (i + 1 + d)) d)) (fun d x9 => [(0, .ref (b + o)), (1, .int (x9)), (2, .int (nI i)), (3, .int (nI (i + 1 + d)))]) 0 (pairs) (Nat.zero_le _) hI (lv_sub hl [1, 2, 3, 0] rfl) ?_
    clear hl
    intro d pr ls hi_d hI hl ih_d
    replace hl : lv_has ls 4 [(0, .ref (b + o)), (1, .int pr), (2, .int (nI i)), (3, .int (nI (i + 1 + d)))] := hl
    replace hI : pr = nI (cnP (q_bu g o) nb i + cnB (fun d => q_bu g o i (i + 1 + d)) d) := hI
    refine lv_iload_n hx hb dX1_bunchedPairs_16 rfl (lv_at hl 3 rfl) ?_
    refine lv_aload_n hx hb dX1_bunchedPairs_17 rfl (lv_at hl 0 rfl) ?_
    refine w_get hx hb hts inX1 hown hK hW (ltL ho) (Ent_L ho) rfl 3 (by decide) q_437 (fun _ h => h) rfl dX1_bunchedPairs_18 ?_
    refine lv_icmp_ge (tgt := 51) hx hb dX1_bunchedPairs_21 (by decide) (fun c_2 => ?_) (fun c_2 => ?_)
    · have hin := br_le h3 rfl (by omega) (by omega) c_2
      have hJ : pr = nI (cnP (q_bu g o) nb (i + 1)) := by rw [hI, show d = nb - (i + 1) by omega]; rfl
      refine lv_iinc (v := nI (i + 1)) (lv' := [(2, .int (nI (i + 1))), (0, .ref (b + o)), (1, .int pr), (3, .int (nI (i + 1 + d)))]) hx hb dX1_bunchedPairs_51 hl (k := 2) rfl ((by rw [← nI_1]; rfl)) (by decide) rfl (fun ls hl => ?_)
      refine lv_goto (tgt := 4) hx hb dX1_bunchedPairs_54 (by decide) ?_
      exact ih_i hlt (pr) _ hJ (lv_sub hl [1, 2, 0] rfl)
    · have hltd : d < nb - (i + 1) := by have := br_nle h3 rfl (by omega) (by omega) c_2; omega
      refine lv_aload_n hx hb dX1_bunchedPairs_24 rfl (lv_at hl 0 rfl) ?_
      refine w_get hx hb hts inX1 hown hK hW (ltL ho) (Ent_L ho) rfl 1 (by decide) q_433 (fun _ h => h) rfl dX1_bunchedPairs_25 ?_
      refine lv_iload_n hx hb dX1_bunchedPairs_28 rfl (lv_at hl 2 rfl) ?_
      refine w_aldB hx hb hK hW ho i rfl (by omega) dX1_bunchedPairs_29 ?_
      refine lv_aload_n hx hb dX1_bunchedPairs_30 rfl (lv_at hl 0 rfl) ?_
      refine w_get hx hb hts inX1 hown hK hW (ltL ho) (Ent_L ho) rfl 1 (by decide) q_433 (fun _ h => h) rfl dX1_bunchedPairs_31 ?_
      refine lv_iload_n hx hb dX1_bunchedPairs_34 rfl (lv_at hl 3 rfl) ?_
      refine w_aldB hx hb hK hW ho (i + 1 + d) rfl (by omega) dX1_bunchedPairs_35 ?_
      refine k_R (c_V0 ⟨hx, hb, hml, hown, hts⟩ (metX0_isBunchedWith l X b w g (isB_of ho (by omega)) (isB_of ho (by omega))) hK hW (ltB (isB_of ho (by omega))) (Ent_B (isB_of ho (by omega))) rfl q_221 q_222 q_223 q_4 q_224 hX0_isBunchedWith ⟨Nat.le_of_ble_eq_true rfl, Nat.le_of_ble_eq_true rfl, rfl, rfl⟩ rfl dX1_bunchedPairs_36 rfl hl.1 (Nat.le_of_ble_eq_true rfl) ⟨Nat.le_of_ble_eq_true rfl, Nat.le_of_ble_eq_true rfl⟩) ?_
      refine lv_if_eq (tgt := 45) hx hb dX1_bunchedPairs_39 (by decide) (fun c_3 => ?_) (fun c_3 => ?_)
      · refine lv_iinc (v := nI ((i + 1 + d) + 1)) (lv' := [(3, .int (nI ((i + 1 + d) + 1))), (0, .ref (b + o)), (1, .int pr), (2, .int (nI i))]) hx hb dX1_bunchedPairs_45 hl (k := 3) rfl ((by rw [← nI_1]; rfl)) (by decide) rfl (fun ls hl => ?_)
        refine lv_goto (tgt := 16) hx hb dX1_bunchedPairs_48 (by decide) ?_
        exact ih_d hltd (pr) _ (by show pr = nI (cnP (q_bu g o) nb i + cnB (fun d => q_bu g o i (i + 1 + d)) (d + 1)); unfold cnB; rw [show q_bu g o i (i + 1 + d) = false from decide_eq_false (f_bunch0.mp c_3), hI]; rfl) (lv_sub hl [1, 2, 3, 0] rfl)
      · refine lv_iinc (v := pr + 1) (lv' := [(1, .int (pr + 1)), (0, .ref (b + o)), (2, .int (nI i)), (3, .int (nI (i + 1 + d)))]) hx hb dX1_bunchedPairs_42 hl (k := 1) rfl (rfl) (by decide) rfl (fun ls hl => ?_)
        refine lv_iinc (v := nI ((i + 1 + d) + 1)) (lv' := [(3, .int (nI ((i + 1 + d) + 1))), (1, .int (pr + 1)), (0, .ref (b + o)), (2, .int (nI i))]) hx hb dX1_bunchedPairs_45 hl (k := 3) rfl ((by rw [← nI_1]; rfl)) (by decide) rfl (fun ls hl => ?_)
        refine lv_goto (tgt := 16) hx hb dX1_bunchedPairs_48 (by decide) ?_
        exact ih_d hltd (pr + 1) _ (by show pr + 1 = nI (cnP (q_bu g o) nb i + cnB (fun d => q_bu g o i (i + 1 + d)) (d + 1)); unfold cnB; rw [show q_bu g o i (i + 1 + d) = true from decide_eq_true (f_bunch1.mp c_3), hI, if_pos rfl, ← Nat.add_assoc]; exact nI_1 _) (lv_sub hl [2, 1, 3, 0] rfl)

theorem metX1_stopAt10 (l : Launch) (X : CX) (b : Nat) (w : Int64) (g : S2) {o n : Nat} (ho : isL o) {x : Int32} (hxn : x = nI n) (hn : n < 10) : Met l yX1_stopAt (wsg yX1_stopAt cX1_stopAt 3 (some (.object "BusStage$Stop"))) ({ frames := 0, cells := 0, slots := 0, locals := 0 }) (Pre X b g w [.ref (b + o), .int x]) (QRr (b + (o + 4 + n))) 0 0 NO := by
  have h := metX1_stopAt l X b w g ho hxn (show n < 2000 by omega)
  rwa [Nat.mod_eq_of_lt hn] at h

set_option maxHeartbeats 1000000 in
set_option maxRecDepth 100000 in
theorem metX1_tellStop (l : Launch) (X : CX) (b : Nat) (w : Int64) (g : S2) {o nb np : Nat} (ho : isL o) (h : OkL o nb np g) (n : Nat) (hn : n < 10) (k : Nat) (hk : k < 5) : Met l yX1_tellStop (wsg yX1_tellStop cX1_tellStop 3 (some .int)) ({ frames := 2, cells := 0, slots := 0, locals := 44 }) (Pre X b g w [.ref (b + o), .int (nI n), .int (nI k)]) (QR (f_tellS g o nb np n k)) 0 0 NO := by
  refine Met.ofW (cc := cX1_tellStop) (maxL := 3) (ret := (some .int)) (by decide) rfl ?_
  intro p e s m args below meth c s₁ Bo hml hv
  obtain ⟨rfl, hW, hK⟩ := hv
  have hx := Bo.exec
  have hb := Bo.bytes
  have hr := Bo.returns
  have hts := hts_of (atoms_spec (ws := wsg yX1_tellStop cX1_tellStop 3 (some .int)) Bo.pre)
  have hown : s.vm.findClass RX1 = some m.cls := findClass_of_methodNamed Bo.named
  have hlocks := Bo.notSynchronized
  have hl := lv_entry ([.ref (b + o), .int (nI n), .int (nI k)]) (n := 3) (Nat.le_of_ble_eq_true rfl)
  rw [lg_entry_eq]
  generalize (lg_sl ([.ref (b + o), .int (nI n), .int (nI k)]) ++ List.replicate (3 - (lg_sl ([.ref (b + o), .int (nI n), .int (nI k)])).length) Slot.unset).toArray = ls at hl ⊢
  obtain ⟨⟨h3, hnb⟩, ⟨h4, hnp⟩, hnum, hbus, hpas⟩ := id h
  rcases (by omega : k = 0 ∨ k = 1 ∨ k = 2 ∨ k = 3 ∨ k = 4) with rfl | rfl | rfl | rfl | rfl
  · have hl : lv_has ls 3 [(0, .ref (b + o)), (1, .int (nI n)), (2, .int (nI 0))] := hl
    refine lv_iload_n hx hb dX1_tellStop_0 rfl (lv_at hl 2 rfl) ?_
    refine lv_tableIn (off := 31) (tgt := 32) hx hb dX1_tellStop_1 (by decide) (by decide) (by decide) (by decide) ?_
    refine lv_aload_n hx hb dX1_tellStop_32 rfl (lv_at hl 0 rfl) ?_
    refine lv_iload_n hx hb dX1_tellStop_33 rfl (lv_at hl 1 rfl) ?_
    refine k_Rr (c_V0 ⟨hx, hb, hml, hown, hts⟩ (metX1_stopAt10 l X b w g ho (x := nI n) rfl hn) hK hW (ltL ho) (Ent_L ho) rfl q_151 q_110 q_111 q_2 q_112 hX1_stopAt ⟨Nat.le_of_ble_eq_true rfl, Nat.le_of_ble_eq_true rfl, rfl, rfl⟩ rfl dX1_tellStop_34 rfl hl.1 (Nat.le_of_ble_eq_true rfl) ⟨Nat.le_of_ble_eq_true rfl, Nat.le_of_ble_eq_true rfl⟩) ?_
    refine w_get hx hb hts inX3 hown hK hW (ltS (isS_of ho hn)) (Ent_S (isS_of ho hn)) rfl 0 (by decide) q_346 (fun _ h => h) rfl dX1_tellStop_37 ?_
    exact W.iret (v := g (o + 4 + n) 0) hx hb hr (fun t9 ht9 _ => ⟨congrArg (fun z => Outcome.returned (some (Value.int z))) rfl, ht9⟩) (fun q hq => absurd hq List.not_mem_nil) dX1_tellStop_40
  · have hl : lv_has ls 3 [(0, .ref (b + o)), (1, .int (nI n)), (2, .int (nI 1))] := hl
    refine lv_iload_n hx hb dX1_tellStop_0 rfl (lv_at hl 2 rfl) ?_
    refine lv_tableIn (off := 40) (tgt := 41) hx hb dX1_tellStop_1 (by decide) (by decide) (by decide) (by decide) ?_
    refine lv_aload_n hx hb dX1_tellStop_41 rfl (lv_at hl 0 rfl) ?_
    refine lv_iload_n hx hb dX1_tellStop_42 rfl (lv_at hl 1 rfl) ?_
    refine k_Rr (c_V0 ⟨hx, hb, hml, hown, hts⟩ (metX1_stopAt10 l X b w g ho (x := nI n) rfl hn) hK hW (ltL ho) (Ent_L ho) rfl q_151 q_110 q_111 q_2 q_112 hX1_stopAt ⟨Nat.le_of_ble_eq_true rfl, Nat.le_of_ble_eq_true rfl, rfl, rfl⟩ rfl dX1_tellStop_43 rfl hl.1 (Nat.le_of_ble_eq_true rfl) ⟨Nat.le_of_ble_eq_true rfl, Nat.le_of_ble_eq_true rfl⟩) ?_
    refine w_get hx hb hts inX3 hown hK hW (ltS (isS_of ho hn)) (Ent_S (isS_of ho hn)) rfl 1 (by decide) q_349 (fun _ h => h) rfl dX1_tellStop_46 ?_
    exact W.iret (v := g (o + 4 + n) 1) hx hb hr (fun t9 ht9 _ => ⟨congrArg (fun z => Outcome.returned (some (Value.int z))) rfl, ht9⟩) (fun q hq => absurd hq List.not_mem_nil) dX1_tellStop_49
  · have hl : lv_has ls 3 [(0, .ref (b + o)), (1, .int (nI n)), (2, .int (nI 2))] := hl
    refine lv_iload_n hx hb dX1_tellStop_0 rfl (lv_at hl 2 rfl) ?_
    refine lv_tableIn (off := 49) (tgt := 50) hx hb dX1_tellStop_1 (by decide) (by decide) (by decide) (by decide) ?_
    refine lv_aload_n hx hb dX1_tellStop_50 rfl (lv_at hl 0 rfl) ?_
    refine lv_iload_n hx hb dX1_tellStop_51 rfl (lv_at hl 1 rfl) ?_
    refine k_R (c_V0 ⟨hx, hb, hml, hown, hts⟩ (metX1_waitingAt l X b w g ho h (nI n)) hK hW (ltL ho) (Ent_L ho) rfl q_184 q_185 q_186 q_2 q_187 hX1_waitingAt ⟨Nat.le_of_ble_eq_true rfl, Nat.le_of_ble_eq_true rfl, rfl, rfl⟩ rfl dX1_tellStop_52 rfl hl.1 (Nat.le_of_ble_eq_true rfl) ⟨Nat.le_of_ble_eq_true rfl, Nat.le_of_ble_eq_true rfl⟩) ?_
    exact W.iret (v := nI (cnB (q_wa g o (nI n)) np)) hx hb hr (fun t9 ht9 _ => ⟨congrArg (fun z => Outcome.returned (some (Value.int z))) rfl, ht9⟩) (fun q hq => absurd hq List.not_mem_nil) dX1_tellStop_55
  · have hl : lv_has ls 3 [(0, .ref (b + o)), (1, .int (nI n)), (2, .int (nI 3))] := hl
    refine lv_iload_n hx hb dX1_tellStop_0 rfl (lv_at hl 2 rfl) ?_
    refine lv_tableIn (off := 55) (tgt := 56) hx hb dX1_tellStop_1 (by decide) (by decide) (by decide) (by decide) ?_
    refine lv_aload_n hx hb dX1_tellStop_56 rfl (lv_at hl 0 rfl) ?_
    refine lv_iload_n hx hb dX1_tellStop_57 rfl (lv_at hl 1 rfl) ?_
    refine k_R (c_V0 ⟨hx, hb, hml, hown, hts⟩ (metX1_standingAt l X b w g ho h (nI n)) hK hW (ltL ho) (Ent_L ho) rfl q_192 q_193 q_194 q_2 q_195 hX1_standingAt ⟨Nat.le_of_ble_eq_true rfl, Nat.le_of_ble_eq_true rfl, rfl, rfl⟩ rfl dX1_tellStop_58 rfl hl.1 (Nat.le_of_ble_eq_true rfl) ⟨Nat.le_of_ble_eq_true rfl, Nat.le_of_ble_eq_true rfl⟩) ?_
    exact W.iret (v := nI (cnB (q_st g o (nI n)) nb)) hx hb hr (fun t9 ht9 _ => ⟨congrArg (fun z => Outcome.returned (some (Value.int z))) rfl, ht9⟩) (fun q hq => absurd hq List.not_mem_nil) dX1_tellStop_61
  · have hl : lv_has ls 3 [(0, .ref (b + o)), (1, .int (nI n)), (2, .int (nI 4))] := hl
    refine lv_iload_n hx hb dX1_tellStop_0 rfl (lv_at hl 2 rfl) ?_
    refine lv_tableOut (tgt := 62) hx hb dX1_tellStop_1 (by decide) (by decide) ?_
    refine lv_aload_n hx hb dX1_tellStop_62 rfl (lv_at hl 0 rfl) ?_
    refine lv_iload_n hx hb dX1_tellStop_63 rfl (lv_at hl 1 rfl) ?_
    refine k_Rr (c_V0 ⟨hx, hb, hml, hown, hts⟩ (metX1_stopAt10 l X b w g ho (x := nI n) rfl hn) hK hW (ltL ho) (Ent_L ho) rfl q_151 q_110 q_111 q_2 q_112 hX1_stopAt ⟨Nat.le_of_ble_eq_true rfl, Nat.le_of_ble_eq_true rfl, rfl, rfl⟩ rfl dX1_tellStop_64 rfl hl.1 (Nat.le_of_ble_eq_true rfl) ⟨Nat.le_of_ble_eq_true rfl, Nat.le_of_ble_eq_true rfl⟩) ?_
    refine w_get hx hb hts inX3 hown hK hW (ltS (isS_of ho hn)) (Ent_S (isS_of ho hn)) rfl 2 (by decide) q_351 (fun _ h => h) rfl dX1_tellStop_67 ?_
    exact W.iret (v := g (o + 4 + n) 2) hx hb hr (fun t9 ht9 _ => ⟨congrArg (fun z => Outcome.returned (some (Value.int z))) rfl, ht9⟩) (fun q hq => absurd hq List.not_mem_nil) dX1_tellStop_70

set_option maxHeartbeats 1000000 in
set_option maxRecDepth 100000 in
theorem metX1_tellCount (l : Launch) (X : CX) (b : Nat) (w : Int64) (g : S2) {o nb np : Nat} (ho : isL o) (h : OkL o nb np g) (k : Nat) (hk : k < 10) : Met l yX1_tellCount (wsg yX1_tellCount cX1_tellCount 2 (some .int)) ({ frames := 2, cells := 0, slots := 0, locals := 44 }) (Pre X b g w [.ref (b + o), .int (nI k)]) (QR (f_tellC g o nb np k)) 0 0 NO := by
  refine Met.ofW (cc := cX1_tellCount) (maxL := 2) (ret := (some .int)) (by decide) rfl ?_
  intro p e s m args below meth c s₁ Bo hml hv
  obtain ⟨rfl, hW, hK⟩ := hv
  have hx := Bo.exec
  have hb := Bo.bytes
  have hr := Bo.returns
  have hts := hts_of (atoms_spec (ws := wsg yX1_tellCount cX1_tellCount 2 (some .int)) Bo.pre)
  have hown : s.vm.findClass RX1 = some m.cls := findClass_of_methodNamed Bo.named
  have hlocks := Bo.notSynchronized
  have hl := lv_entry ([.ref (b + o), .int (nI k)]) (n := 2) (Nat.le_of_ble_eq_true rfl)
  rw [lg_entry_eq]
  generalize (lg_sl ([.ref (b + o), .int (nI k)]) ++ List.replicate (2 - (lg_sl ([.ref (b + o), .int (nI k)])).length) Slot.unset).toArray = ls at hl ⊢
  obtain ⟨⟨h3, hnb⟩, ⟨h4, hnp⟩, hnum, hbus, hpas⟩ := id h
  rcases (by omega : k = 0 ∨ k = 1 ∨ k = 2 ∨ k = 3 ∨ k = 4 ∨ k = 5 ∨ k = 6 ∨ k = 7 ∨ k = 8 ∨ k = 9) with rfl | rfl | rfl | rfl | rfl | rfl | rfl | rfl | rfl | rfl
  · have hl : lv_has ls 2 [(0, .ref (b + o)), (1, .int (nI 0))] := hl
    refine lv_iload_n hx hb dX1_tellCount_0 rfl (lv_at hl 1 rfl) ?_
    refine lv_tableIn (off := 51) (tgt := 52) hx hb dX1_tellCount_1 (by decide) (by decide) (by decide) (by decide) ?_
    refine lv_aload_n hx hb dX1_tellCount_52 rfl (lv_at hl 0 rfl) ?_
    refine w_get hx hb hts inX1 hown hK hW (ltL ho) (Ent_L ho) rfl 5 (by decide) q_441 (fun _ h => h) rfl dX1_tellCount_53 ?_
    exact W.iret (v := g o 5) hx hb hr (fun t9 ht9 _ => ⟨congrArg (fun z => Outcome.returned (some (Value.int z))) rfl, ht9⟩) (fun q hq => absurd hq List.not_mem_nil) dX1_tellCount_56
  · have hl : lv_has ls 2 [(0, .ref (b + o)), (1, .int (nI 1))] := hl
    refine lv_iload_n hx hb dX1_tellCount_0 rfl (lv_at hl 1 rfl) ?_
    refine lv_tableIn (off := 56) (tgt := 57) hx hb dX1_tellCount_1 (by decide) (by decide) (by decide) (by decide) ?_
    refine lv_aload_n hx hb dX1_tellCount_57 rfl (lv_at hl 0 rfl) ?_
    refine w_get hx hb hts inX1 hown hK hW (ltL ho) (Ent_L ho) rfl 6 (by decide) q_443 (fun _ h => h) rfl dX1_tellCount_58 ?_
    exact W.iret (v := g o 6) hx hb hr (fun t9 ht9 _ => ⟨congrArg (fun z => Outcome.returned (some (Value.int z))) rfl, ht9⟩) (fun q hq => absurd hq List.not_mem_nil) dX1_tellCount_61
  · have hl : lv_has ls 2 [(0, .ref (b + o)), (1, .int (nI 2))] := hl
    refine lv_iload_n hx hb dX1_tellCount_0 rfl (lv_at hl 1 rfl) ?_
    refine lv_tableIn (off := 61) (tgt := 62) hx hb dX1_tellCount_1 (by decide) (by decide) (by decide) (by decide) ?_
    refine lv_aload_n hx hb dX1_tellCount_62 rfl (lv_at hl 0 rfl) ?_
    refine w_get hx hb hts inX1 hown hK hW (ltL ho) (Ent_L ho) rfl 3 (by decide) q_437 (fun _ h => h) rfl dX1_tellCount_63 ?_
    exact W.iret (v := g o 3) hx hb hr (fun t9 ht9 _ => ⟨congrArg (fun z => Outcome.returned (some (Value.int z))) rfl, ht9⟩) (fun q hq => absurd hq List.not_mem_nil) dX1_tellCount_66
  · have hl : lv_has ls 2 [(0, .ref (b + o)), (1, .int (nI 3))] := hl
    refine lv_iload_n hx hb dX1_tellCount_0 rfl (lv_at hl 1 rfl) ?_
    refine lv_tableIn (off := 66) (tgt := 67) hx hb dX1_tellCount_1 (by decide) (by decide) (by decide) (by decide) ?_
    refine lv_aload_n hx hb dX1_tellCount_67 rfl (lv_at hl 0 rfl) ?_
    refine w_get hx hb hts inX1 hown hK hW (ltL ho) (Ent_L ho) rfl 4 (by decide) q_439 (fun _ h => h) rfl dX1_tellCount_68 ?_
    exact W.iret (v := g o 4) hx hb hr (fun t9 ht9 _ => ⟨congrArg (fun z => Outcome.returned (some (Value.int z))) rfl, ht9⟩) (fun q hq => absurd hq List.not_mem_nil) dX1_tellCount_71
  · have hl : lv_has ls 2 [(0, .ref (b + o)), (1, .int (nI 4))] := hl
    refine lv_iload_n hx hb dX1_tellCount_0 rfl (lv_at hl 1 rfl) ?_
    refine lv_tableIn (off := 71) (tgt := 72) hx hb dX1_tellCount_1 (by decide) (by decide) (by decide) (by decide) ?_
    refine lv_aload_n hx hb dX1_tellCount_72 rfl (lv_at hl 0 rfl) ?_
    refine lv_iconst (v := 0) hx hb dX1_tellCount_73 (by decide) ?_
    refine k_R (c_V0 ⟨hx, hb, hml, hown, hts⟩ (metX1_passengersIn l X b w g ho h 0) hK hW (ltL ho) (Ent_L ho) rfl q_205 q_206 q_207 q_2 q_208 hX1_passengersIn ⟨Nat.le_of_ble_eq_true rfl, Nat.le_of_ble_eq_true rfl, rfl, rfl⟩ rfl dX1_tellCount_74 rfl hl.1 (Nat.le_of_ble_eq_true rfl) ⟨Nat.le_of_ble_eq_true rfl, Nat.le_of_ble_eq_true rfl⟩) ?_
    exact W.iret (v := nI (cnB (q_in g o 0) np)) hx hb hr (fun t9 ht9 _ => ⟨congrArg (fun z => Outcome.returned (some (Value.int z))) rfl, ht9⟩) (fun q hq => absurd hq List.not_mem_nil) dX1_tellCount_77
  · have hl : lv_has ls 2 [(0, .ref (b + o)), (1, .int (nI 5))] := hl
    refine lv_iload_n hx hb dX1_tellCount_0 rfl (lv_at hl 1 rfl) ?_
    refine lv_tableIn (off := 77) (tgt := 78) hx hb dX1_tellCount_1 (by decide) (by decide) (by decide) (by decide) ?_
    refine lv_aload_n hx hb dX1_tellCount_78 rfl (lv_at hl 0 rfl) ?_
    refine lv_iconst (v := 1) hx hb dX1_tellCount_79 (by decide) ?_
    refine k_R (c_V0 ⟨hx, hb, hml, hown, hts⟩ (metX1_passengersIn l X b w g ho h 1) hK hW (ltL ho) (Ent_L ho) rfl q_205 q_206 q_207 q_2 q_208 hX1_passengersIn ⟨Nat.le_of_ble_eq_true rfl, Nat.le_of_ble_eq_true rfl, rfl, rfl⟩ rfl dX1_tellCount_80 rfl hl.1 (Nat.le_of_ble_eq_true rfl) ⟨Nat.le_of_ble_eq_true rfl, Nat.le_of_ble_eq_true rfl⟩) ?_
    exact W.iret (v := nI (cnB (q_in g o 1) np)) hx hb hr (fun t9 ht9 _ => ⟨congrArg (fun z => Outcome.returned (some (Value.int z))) rfl, ht9⟩) (fun q hq => absurd hq List.not_mem_nil) dX1_tellCount_83
  · have hl : lv_has ls 2 [(0, .ref (b + o)), (1, .int (nI 6))] := hl
    refine lv_iload_n hx hb dX1_tellCount_0 rfl (lv_at hl 1 rfl) ?_
    refine lv_tableIn (off := 83) (tgt := 84) hx hb dX1_tellCount_1 (by decide) (by decide) (by decide) (by decide) ?_
    refine lv_aload_n hx hb dX1_tellCount_84 rfl (lv_at hl 0 rfl) ?_
    refine lv_iconst (v := 2) hx hb dX1_tellCount_85 (by decide) ?_
    refine k_R (c_V0 ⟨hx, hb, hml, hown, hts⟩ (metX1_passengersIn l X b w g ho h 2) hK hW (ltL ho) (Ent_L ho) rfl q_205 q_206 q_207 q_2 q_208 hX1_passengersIn ⟨Nat.le_of_ble_eq_true rfl, Nat.le_of_ble_eq_true rfl, rfl, rfl⟩ rfl dX1_tellCount_86 rfl hl.1 (Nat.le_of_ble_eq_true rfl) ⟨Nat.le_of_ble_eq_true rfl, Nat.le_of_ble_eq_true rfl⟩) ?_
    exact W.iret (v := nI (cnB (q_in g o 2) np)) hx hb hr (fun t9 ht9 _ => ⟨congrArg (fun z => Outcome.returned (some (Value.int z))) rfl, ht9⟩) (fun q hq => absurd hq List.not_mem_nil) dX1_tellCount_89
  · have hl : lv_has ls 2 [(0, .ref (b + o)), (1, .int (nI 7))] := hl
    refine lv_iload_n hx hb dX1_tellCount_0 rfl (lv_at hl 1 rfl) ?_
    refine lv_tableIn (off := 89) (tgt := 90) hx hb dX1_tellCount_1 (by decide) (by decide) (by decide) (by decide) ?_
    refine lv_aload_n hx hb dX1_tellCount_90 rfl (lv_at hl 0 rfl) ?_
    refine k_R (c_V0 ⟨hx, hb, hml, hown, hts⟩ (metX1_allPaid l X b w g ho h) hK hW (ltL ho) (Ent_L ho) rfl q_209 q_210 q_211 q_2 q_212 hX1_allPaid ⟨Nat.le_of_ble_eq_true rfl, Nat.le_of_ble_eq_true rfl, rfl, rfl⟩ rfl dX1_tellCount_91 rfl hl.1 (Nat.le_of_ble_eq_true rfl) ⟨Nat.le_of_ble_eq_true rfl, Nat.le_of_ble_eq_true rfl⟩) ?_
    exact W.iret (v := sumF (fun q => g (o + 20 + q) 4) np) hx hb hr (fun t9 ht9 _ => ⟨congrArg (fun z => Outcome.returned (some (Value.int z))) rfl, ht9⟩) (fun q hq => absurd hq List.not_mem_nil) dX1_tellCount_94
  · have hl : lv_has ls 2 [(0, .ref (b + o)), (1, .int (nI 8))] := hl
    refine lv_iload_n hx hb dX1_tellCount_0 rfl (lv_at hl 1 rfl) ?_
    refine lv_tableIn (off := 94) (tgt := 95) hx hb dX1_tellCount_1 (by decide) (by decide) (by decide) (by decide) ?_
    refine lv_aload_n hx hb dX1_tellCount_95 rfl (lv_at hl 0 rfl) ?_
    refine k_R (c_V0 ⟨hx, hb, hml, hown, hts⟩ (metX1_allWaited l X b w g ho h) hK hW (ltL ho) (Ent_L ho) rfl q_213 q_214 q_215 q_2 q_216 hX1_allWaited ⟨Nat.le_of_ble_eq_true rfl, Nat.le_of_ble_eq_true rfl, rfl, rfl⟩ rfl dX1_tellCount_96 rfl hl.1 (Nat.le_of_ble_eq_true rfl) ⟨Nat.le_of_ble_eq_true rfl, Nat.le_of_ble_eq_true rfl⟩) ?_
    exact W.iret (v := sumF (fun q => g (o + 20 + q) 5) np) hx hb hr (fun t9 ht9 _ => ⟨congrArg (fun z => Outcome.returned (some (Value.int z))) rfl, ht9⟩) (fun q hq => absurd hq List.not_mem_nil) dX1_tellCount_99
  · have hl : lv_has ls 2 [(0, .ref (b + o)), (1, .int (nI 9))] := hl
    refine lv_iload_n hx hb dX1_tellCount_0 rfl (lv_at hl 1 rfl) ?_
    refine lv_tableOut (tgt := 100) hx hb dX1_tellCount_1 (by decide) (by decide) ?_
    refine lv_aload_n hx hb dX1_tellCount_100 rfl (lv_at hl 0 rfl) ?_
    refine k_R (c_V0 ⟨hx, hb, hml, hown, hts⟩ (metX1_bunchedPairs l X b w g ho h) hK hW (ltL ho) (Ent_L ho) rfl q_217 q_218 q_219 q_2 q_220 hX1_bunchedPairs ⟨Nat.le_of_ble_eq_true rfl, Nat.le_of_ble_eq_true rfl, rfl, rfl⟩ rfl dX1_tellCount_101 rfl hl.1 (Nat.le_of_ble_eq_true rfl) ⟨Nat.le_of_ble_eq_true rfl, Nat.le_of_ble_eq_true rfl⟩) ?_
    exact W.iret (v := nI (cnP (q_bu g o) nb nb)) hx hb hr (fun t9 ht9 _ => ⟨congrArg (fun z => Outcome.returned (some (Value.int z))) rfl, ht9⟩) (fun q hq => absurd hq List.not_mem_nil) dX1_tellCount_104
end
section
set_option maxHeartbeats 1000000 in
set_option maxRecDepth 100000 in
theorem metX1_letOff (l : Launch) (X : CX) (b : Nat) (w : Int64) (g : S2) {o nb np : Nat} (ho : isL o) (h : OkL o nb np g) {j : Nat} (hj : j < nb) : Met l yX1_letOff (wsg yX1_letOff cX1_letOff 4 (some .int)) ({ frames := 1, cells := 0, slots := 0, locals := 22 }) (Pre X b g w [.ref (b + o), .ref (b + (o + 14 + j))]) (Qi X b w (fun (r : Int32) (g1 : S2) => r = nI (f_offs g o (o + 14 + j) np).2 ∧ g1 = f_letOff g o (o + 14 + j) np)) 0 0 (AA b) := by
  refine Met.ofW (cc := cX1_letOff) (maxL := 4) (ret := (some .int)) (by decide) rfl ?_
  intro p e s m args below meth c s₁ Bo hml hv
  obtain ⟨rfl, hW, hK⟩ := hv
  have hx := Bo.exec
  have hb := Bo.bytes
  have hr := Bo.returns
  have hts := hts_of (atoms_spec (ws := wsg yX1_letOff cX1_letOff 4 (some .int)) Bo.pre)
  have hown : s.vm.findClass RX1 = some m.cls := findClass_of_methodNamed Bo.named
  have hlocks := Bo.notSynchronized
  have hS : va_S (AA b) s.heap s.heap [] := va_S.rf
  have hl := lv_entry ([.ref (b + o), .ref (b + (o + 14 + j))]) (n := 4) (Nat.le_of_ble_eq_true rfl)
  rw [lg_entry_eq]
  generalize (lg_sl ([.ref (b + o), .ref (b + (o + 14 + j))]) ++ List.replicate (4 - (lg_sl ([.ref (b + o), .ref (b + (o + 14 + j))])).length) Slot.unset).toArray = ls at hl ⊢
  have hl : lv_has ls 4 [(0, .ref (b + o)), (1, .ref (b + (o + 14 + j)))] := hl
  have hj6 : j < 6 := Nat.lt_of_lt_of_le hj h.1.2
  obtain ⟨⟨h3, hnb⟩, ⟨h4, hnp⟩, hnum, hbus, hpas⟩ := id h
  refine lv_iconst (v := 0) hx hb dX1_letOff_0 (by decide) ?_
  refine lv_istore_n (lv' := [(2, .int 0), (0, .ref (b + o)), (1, .ref (b + (o + 14 + j)))]) hx hb dX1_letOff_1 rfl hl (by decide) rfl (fun ls hl => ?_)
  refine lv_iconst (v := 0) hx hb dX1_letOff_2 (by decide) ?_
  refine lv_istore_n (lv' := [(3, .int 0), (2, .int 0), (0, .ref (b + o)), (1, .ref (b + (o + 14 + j)))]) hx hb dX1_letOff_3 rfl hl (by decide) rfl (fun ls hl => ?_)
  refine w_loop (σ := S2 × Nat) (np) (fun i x9 => (x9.1, x9.2) = f_offs g o (o + 14 + j) i) (fun i x9 => x9.1) (fun i x9 => [(0, .ref (b + o)), (1, .ref (b + (o + 14 + j))), (2, .int (nI x9.2)), (3, .int (nI i))]) 0 (g, 0) (Nat.zero_le _) rfl hW hS (lv_sub hl [2, 3, 1, 0] rfl) ?_
  clear hW hS hl
  intro i x9 H locs ls hi_i hI hW hS hl ih_i
  obtain ⟨gi, off⟩ := x9
  replace hl : lv_has ls 4 [(0, .ref (b + o)), (1, .ref (b + (o + 14 + j))), (2, .int (nI off)), (3, .int (nI i))] := hl
  replace hI : (gi, off) = f_offs g o (o + 14 + j) i := hI
  replace hW : wd X b gi w H := hW
  have hgi : gi = (f_offs g o (o + 14 + j) i).1 := congrArg Prod.fst hI
  have h1 : OkL o nb np gi := by rw [hgi]; exact okl_offs h i hi_i
  obtain ⟨⟨h3, -⟩, ⟨h4, -⟩, -, hbus, hpas⟩ := id h1
  refine lv_iload_n hx hb dX1_letOff_4 rfl (lv_at hl 3 rfl) ?_
  refine lv_aload_n hx hb dX1_letOff_5 rfl (lv_at hl 0 rfl) ?_
  refine w_get hx hb hts inX1 hown hK hW (ltL ho) (Ent_L ho) rfl 4 (by decide) q_439 (fun _ h => h) rfl dX1_letOff_6 ?_
  refine lv_icmp_ge (tgt := 51) hx hb dX1_letOff_9 (by decide) (fun c_1 => ?_) (fun c_1 => ?_)
  · have hin := br_le h4 rfl (by omega) (by omega) c_1
    obtain rfl : np = i := by omega
    refine lv_aload_n hx hb dX1_letOff_51 rfl (lv_at hl 1 rfl) ?_
    refine lv_dup hx hb dX1_letOff_52 rfl ?_
    refine w_get hx hb hts inX0 hown hK hW (ltB (isB_of ho hj6)) (Ent_B (isB_of ho hj6)) rfl 5 (by decide) q_376 (fun _ h => h) rfl dX1_letOff_53 ?_
    refine lv_iload_n hx hb dX1_letOff_56 rfl (lv_at hl 2 rfl) ?_
    refine lv_isub hx hb dX1_letOff_57 ?_
    refine w_put hx hb hts inX0 tyX0 tyX0_ok nmX0 hown hK hW hS (ltB (isB_of ho hj6)) (Ent_B (isB_of ho hj6)) rfl 5 (by decide) q_376 (fun _ h => h) rfl rfl rfl (Nat.le_of_ble_eq_true rfl) (setB (isB_of ho hj6) (by decide)) dX1_letOff_58 (fun H locs hW hS => ?_)
    refine lv_iload_n hx hb dX1_letOff_61 rfl (lv_at hl 2 rfl) ?_
    exact W.iret (v := nI off) hx hb hr (fun t9 ht9 _ => ⟨⟨nI off, (u2 gi (o + 14 + j) 5 ((gi (o + 14 + j) 5) - (nI off))), rfl, ⟨(by rw [← hI]), (by unfold f_letOff; rw [← hI])⟩, by show wd X b _ w t9.heap; rw [ht9]; exact hW⟩, hS.F ht9⟩) hS.2.2 dX1_letOff_62
  · have hlt := br_nle h4 rfl (by omega) (by omega) c_1
    refine lv_aload_n hx hb dX1_letOff_12 rfl (lv_at hl 0 rfl) ?_
    refine w_get hx hb hts inX1 hown hK hW (ltL ho) (Ent_L ho) rfl 2 (by decide) q_435 (fun _ h => h) rfl dX1_letOff_13 ?_
    refine lv_iload_n hx hb dX1_letOff_16 rfl (lv_at hl 3 rfl) ?_
    refine w_aldP hx hb hK hW ho i rfl (by omega) dX1_letOff_17 ?_
    refine lv_aload_n hx hb dX1_letOff_18 rfl (lv_at hl 1 rfl) ?_
    refine w_get hx hb hts inX0 hown hK hW (ltB (isB_of ho hj6)) (Ent_B (isB_of ho hj6)) rfl 1 (by decide) q_368 (fun _ h => h) rfl dX1_letOff_19 ?_
    refine lv_aload_n hx hb dX1_letOff_22 rfl (lv_at hl 1 rfl) ?_
    refine k_R (c_V0 ⟨hx, hb, hml, hown, hts⟩ (metX2_leavesAt l X b w gi (isP_of ho (by omega)) (isB_of ho hj6) (gi (o + 14 + j) 1)) hK hW (ltP (isP_of ho (by omega))) (Ent_P (isP_of ho (by omega))) rfl q_247 q_248 q_249 q_5 q_250 hX2_leavesAt ⟨Nat.le_of_ble_eq_true rfl, Nat.le_of_ble_eq_true rfl, rfl, rfl⟩ rfl dX1_letOff_23 rfl hl.1 (Nat.le_of_ble_eq_true rfl) ⟨Nat.le_of_ble_eq_true rfl, Nat.le_of_ble_eq_true rfl⟩) ?_
    refine lv_if_eq (tgt := 45) hx hb dX1_letOff_26 (by decide) (fun c_2 => ?_) (fun c_2 => ?_)
    · refine lv_iinc (v := nI (i + 1)) (lv' := [(3, .int (nI (i + 1))), (0, .ref (b + o)), (1, .ref (b + (o + 14 + j))), (2, .int (nI off))]) hx hb dX1_letOff_45 hl (k := 3) rfl ((by rw [← nI_1]; rfl)) (by decide) rfl (fun ls hl => ?_)
      refine lv_goto (tgt := 4) hx hb dX1_letOff_48 (by decide) ?_
      exact ih_i hlt (gi, off) _ _ _ (by show (gi, off) = f_offs1 o (o + 14 + j) i (f_offs g o (o + 14 + j) i); rw [← hI]; unfold f_offs1; dsimp only; rw [if_neg (f_leaves0.mp c_2)]) hW hS (lv_sub hl [1, 2, 3, 0] rfl)
    · refine lv_aload_n hx hb dX1_letOff_29 rfl (lv_at hl 0 rfl) ?_
      refine w_get hx hb hts inX1 hown hK hW (ltL ho) (Ent_L ho) rfl 2 (by decide) q_435 (fun _ h => h) rfl dX1_letOff_30 ?_
      refine lv_iload_n hx hb dX1_letOff_33 rfl (lv_at hl 3 rfl) ?_
      refine w_aldP hx hb hK hW ho i rfl (by omega) dX1_letOff_34 ?_
      refine lv_aload_n hx hb dX1_letOff_35 rfl (lv_at hl 0 rfl) ?_
      refine w_get hx hb hts inX1 hown hK hW (ltL ho) (Ent_L ho) rfl 5 (by decide) q_441 (fun _ h => h) rfl dX1_letOff_36 ?_
      refine k_v (c_V0 ⟨hx, hb, hml, hown, hts⟩ (metX2_getOff l X b w gi (isP_of ho (by omega)) (gi o 5)) hK hW (ltP (isP_of ho (by omega))) (Ent_P (isP_of ho (by omega))) rfl q_251 q_252 q_253 q_5 q_254 hX2_getOff ⟨Nat.le_of_ble_eq_true rfl, Nat.le_of_ble_eq_true rfl, rfl, rfl⟩ rfl dX1_letOff_39 rfl hl.1 (Nat.le_of_ble_eq_true rfl) ⟨Nat.le_of_ble_eq_true rfl, Nat.le_of_ble_eq_true rfl⟩) hS (fun g_3 H locs hp hW hS => ?_)
      refine lv_iinc (v := nI (off + 1)) (lv' := [(2, .int (nI (off + 1))), (0, .ref (b + o)), (1, .ref (b + (o + 14 + j))), (3, .int (nI i))]) hx hb dX1_letOff_42 hl (k := 2) rfl ((by rw [← nI_1]; rfl)) (by decide) rfl (fun ls hl => ?_)
      refine lv_iinc (v := nI (i + 1)) (lv' := [(3, .int (nI (i + 1))), (2, .int (nI (off + 1))), (0, .ref (b + o)), (1, .ref (b + (o + 14 + j)))]) hx hb dX1_letOff_45 hl (k := 3) rfl ((by rw [← nI_1]; rfl)) (by decide) rfl (fun ls hl => ?_)
      refine lv_goto (tgt := 4) hx hb dX1_letOff_48 (by decide) ?_
      exact ih_i hlt (g_3, (off + 1)) _ _ _ (by show (g_3, (off + 1)) = f_offs1 o (o + 14 + j) i (f_offs g o (o + 14 + j) i); rw [← hI]; unfold f_offs1; dsimp only; rw [if_pos (f_leaves1.mp c_2), hp]) hW hS (lv_sub hl [2, 3, 1, 0] rfl)

set_option maxHeartbeats 1000000 in
set_option maxRecDepth 100000 in
theorem metX1_letOn (l : Launch) (X : CX) (b : Nat) (w : Int64) (g : S2) {o nb np : Nat} (ho : isL o) (h : OkL o nb np g) {j : Nat} (hj : j < nb) : Met l yX1_letOn (wsg yX1_letOn cX1_letOn 5 (some .int)) ({ frames := 2, cells := 0, slots := 0, locals := 47 }) (Pre X b g w [.ref (b + o), .ref (b + (o + 14 + j))]) (Qi X b w (fun (r : Int32) (g1 : S2) => r = nI (f_ons g o (o + 14 + j) np).2 ∧ g1 = (f_ons g o (o + 14 + j) np).1)) 0 0 (AA b) := by
  refine Met.ofW (cc := cX1_letOn) (maxL := 5) (ret := (some .int)) (by decide) rfl ?_
  intro p e s m args below meth c s₁ Bo hml hv
  obtain ⟨rfl, hW, hK⟩ := hv
  have hx := Bo.exec
  have hb := Bo.bytes
  have hr := Bo.returns
  have hts := hts_of (atoms_spec (ws := wsg yX1_letOn cX1_letOn 5 (some .int)) Bo.pre)
  have hown : s.vm.findClass RX1 = some m.cls := findClass_of_methodNamed Bo.named
  have hlocks := Bo.notSynchronized
  have hS : va_S (AA b) s.heap s.heap [] := va_S.rf
  have hl := lv_entry ([.ref (b + o), .ref (b + (o + 14 + j))]) (n := 5) (Nat.le_of_ble_eq_true rfl)
  rw [lg_entry_eq]
  generalize (lg_sl ([.ref (b + o), .ref (b + (o + 14 + j))]) ++ List.replicate (5 - (lg_sl ([.ref (b + o), .ref (b + (o + 14 + j))])).length) Slot.unset).toArray = ls at hl ⊢
  have hl : lv_has ls 5 [(0, .ref (b + o)), (1, .ref (b + (o + 14 + j)))] := hl
  have hj6 : j < 6 := Nat.lt_of_lt_of_le hj h.1.2
  obtain ⟨⟨h3, hnb⟩, ⟨h4, hnp⟩, hnum, hbus, hpas⟩ := id h
  refine lv_iconst (v := 0) hx hb dX1_letOn_0 (by decide) ?_
  refine lv_istore_n (lv' := [(2, .int 0), (0, .ref (b + o)), (1, .ref (b + (o + 14 + j)))]) hx hb dX1_letOn_1 rfl hl (by decide) rfl (fun ls hl => ?_)
  refine lv_iconst (v := 0) hx hb dX1_letOn_2 (by decide) ?_
  refine lv_istore_n (lv' := [(3, .int 0), (2, .int 0), (0, .ref (b + o)), (1, .ref (b + (o + 14 + j)))]) hx hb dX1_letOn_3 rfl hl (by decide) rfl (fun ls hl => ?_)
  refine w_loop (σ := S2 × Nat) (np) (fun i x9 => (x9.1, x9.2) = f_ons g o (o + 14 + j) i) (fun i x9 => x9.1) (fun i x9 => [(0, .ref (b + o)), (1, .ref (b + (o + 14 + j))), (2, .int (nI x9.2)), (3, .int (nI i))]) 0 (g, 0) (Nat.zero_le _) rfl hW hS (lv_sub hl [2, 3, 1, 0] rfl) ?_
  clear hW hS hl
  intro i x9 H locs ls hi_i hI hW hS hl ih_i
  obtain ⟨gi, on⟩ := x9
  replace hl : lv_has ls 5 [(0, .ref (b + o)), (1, .ref (b + (o + 14 + j))), (2, .int (nI on)), (3, .int (nI i))] := hl
  replace hI : (gi, on) = f_ons g o (o + 14 + j) i := hI
  replace hW : wd X b gi w H := hW
  have hgi : gi = (f_ons g o (o + 14 + j) i).1 := congrArg Prod.fst hI
  have h1 : OkL o nb np gi := by rw [hgi]; exact okl_ons h hj6 i hi_i
  obtain ⟨⟨h3, -⟩, ⟨h4, -⟩, -, hbus, hpas⟩ := id h1
  refine lv_iload_n hx hb dX1_letOn_4 rfl (lv_at hl 3 rfl) ?_
  refine lv_aload_n hx hb dX1_letOn_5 rfl (lv_at hl 0 rfl) ?_
  refine w_get hx hb hts inX1 hown hK hW (ltL ho) (Ent_L ho) rfl 4 (by decide) q_439 (fun _ h => h) rfl dX1_letOn_6 ?_
  refine lv_icmp_ge (tgt := 91) hx hb dX1_letOn_9 (by decide) (fun c_1 => ?_) (fun c_1 => ?_)
  · have hin := br_le h4 rfl (by omega) (by omega) c_1
    obtain rfl : np = i := by omega
    refine lv_iload_n hx hb dX1_letOn_91 rfl (lv_at hl 2 rfl) ?_
    exact W.iret (v := nI on) hx hb hr (fun t9 ht9 _ => ⟨⟨nI on, gi, rfl, ⟨(by rw [← hI]), (by rw [← hI])⟩, by show wd X b _ w t9.heap; rw [ht9]; exact hW⟩, hS.F ht9⟩) hS.2.2 dX1_letOn_92
  · have hlt := br_nle h4 rfl (by omega) (by omega) c_1
    refine lv_aload_n hx hb dX1_letOn_12 rfl (lv_at hl 1 rfl) ?_
    refine w_get hx hb hts inX0 hown hK hW (ltB (isB_of ho hj6)) (Ent_B (isB_of ho hj6)) rfl 5 (by decide) q_376 (fun _ h => h) rfl dX1_letOn_13 ?_
    refine lv_aload_n hx hb dX1_letOn_16 rfl (lv_at hl 1 rfl) ?_
    refine w_get hx hb hts inX0 hown hK hW (ltB (isB_of ho hj6)) (Ent_B (isB_of ho hj6)) rfl 4 (by decide) q_374 (fun _ h => h) rfl dX1_letOn_17 ?_
    refine lv_icmp_ge (tgt := 91) hx hb dX1_letOn_20 (by decide) (fun c_2 => ?_) (fun c_2 => ?_)
    · have hful : f_ons g o (o + 14 + j) np = f_ons g o (o + 14 + j) i := f_ons_full hi_i (by rw [← hI]; exact Int32.not_lt.mpr c_2)
      refine lv_iload_n hx hb dX1_letOn_91 rfl (lv_at hl 2 rfl) ?_
      exact W.iret (v := nI on) hx hb hr (fun t9 ht9 _ => ⟨⟨nI on, gi, rfl, ⟨(by rw [hful, ← hI]), (by rw [hful, ← hI])⟩, by show wd X b _ w t9.heap; rw [ht9]; exact hW⟩, hS.F ht9⟩) hS.2.2 dX1_letOn_92
    · refine lv_aload_n hx hb dX1_letOn_23 rfl (lv_at hl 0 rfl) ?_
      refine w_get hx hb hts inX1 hown hK hW (ltL ho) (Ent_L ho) rfl 2 (by decide) q_435 (fun _ h => h) rfl dX1_letOn_24 ?_
      refine lv_iload_n hx hb dX1_letOn_27 rfl (lv_at hl 3 rfl) ?_
      refine w_aldP hx hb hK hW ho i rfl (by omega) dX1_letOn_28 ?_
      refine lv_astore (lv' := [(4, .ref (b + (o + 20 + i))), (0, .ref (b + o)), (1, .ref (b + (o + 14 + j))), (2, .int (nI on)), (3, .int (nI i))]) hx hb dX1_letOn_29 hl (by decide) rfl (fun ls hl => ?_)
      refine lv_aload hx hb dX1_letOn_31 (lv_at hl 0 rfl) ?_
      refine lv_aload_n hx hb dX1_letOn_33 rfl (lv_at hl 2 rfl) ?_
      refine w_get hx hb hts inX0 hown hK hW (ltB (isB_of ho hj6)) (Ent_B (isB_of ho hj6)) rfl 1 (by decide) q_368 (fun _ h => h) rfl dX1_letOn_34 ?_
      refine k_R (c_V0 ⟨hx, hb, hml, hown, hts⟩ (metX2_waitsAt l X b w gi (isP_of ho (by omega)) (gi (o + 14 + j) 1)) hK hW (ltP (isP_of ho (by omega))) (Ent_P (isP_of ho (by omega))) rfl q_188 q_189 q_190 q_5 q_191 hX2_waitsAt ⟨Nat.le_of_ble_eq_true rfl, Nat.le_of_ble_eq_true rfl, rfl, rfl⟩ rfl dX1_letOn_37 rfl hl.1 (Nat.le_of_ble_eq_true rfl) ⟨Nat.le_of_ble_eq_true rfl, Nat.le_of_ble_eq_true rfl⟩) ?_
      refine lv_if_eq (tgt := 85) hx hb dX1_letOn_40 (by decide) (fun c_3 => ?_) (fun c_3 => ?_)
      · refine lv_iinc (v := nI (i + 1)) (lv' := [(3, .int (nI (i + 1))), (4, .ref (b + (o + 20 + i))), (0, .ref (b + o)), (1, .ref (b + (o + 14 + j))), (2, .int (nI on))]) hx hb dX1_letOn_85 hl (k := 4) rfl ((by rw [← nI_1]; rfl)) (by decide) rfl (fun ls hl => ?_)
        refine lv_goto (tgt := 4) hx hb dX1_letOn_88 (by decide) ?_
        exact ih_i hlt (gi, on) _ _ _ (by show (gi, on) = f_ons1 o (o + 14 + j) i (f_ons g o (o + 14 + j) i); rw [← hI]; unfold f_ons1; dsimp only; rw [if_neg (fun z => (f_waits0.mp c_3) z.2)]) hW hS (lv_sub hl [2, 3, 4, 0] rfl)
      · refine lv_aload_n hx hb dX1_letOn_43 rfl (lv_at hl 2 rfl) ?_
        refine lv_dup hx hb dX1_letOn_44 rfl ?_
        refine w_get hx hb hts inX0 hown hK hW (ltB (isB_of ho hj6)) (Ent_B (isB_of ho hj6)) rfl 6 (by decide) q_378 (fun _ h => h) rfl dX1_letOn_45 ?_
        refine lv_aload hx hb dX1_letOn_48 (lv_at hl 0 rfl) ?_
        refine lv_aload_n hx hb dX1_letOn_50 rfl (lv_at hl 2 rfl) ?_
        refine lv_aload_n hx hb dX1_letOn_51 rfl (lv_at hl 1 rfl) ?_
        refine lv_aload hx hb dX1_letOn_52 (lv_at hl 0 rfl) ?_
        refine w_get hx hb hts inX2 hown hK hW (ltP (isP_of ho (by omega))) (Ent_P (isP_of ho (by omega))) rfl 1 (by decide) q_403 (fun _ h => h) rfl dX1_letOn_54 ?_
        refine lv_aload hx hb dX1_letOn_57 (lv_at hl 0 rfl) ?_
        refine w_get hx hb hts inX2 hown hK hW (ltP (isP_of ho (by omega))) (Ent_P (isP_of ho (by omega))) rfl 2 (by decide) q_406 (fun _ h => h) rfl dX1_letOn_59 ?_
        refine k_R (c_V0 ⟨hx, hb, hml, hown, hts⟩ (metX1_fareBetween l X b w gi ho (hpas i hlt).1 (hpas i hlt).2.1) hK hW (ltL ho) (Ent_L ho) rfl q_259 q_148 q_149 q_2 q_150 hX1_fareBetween ⟨Nat.le_of_ble_eq_true rfl, Nat.le_of_ble_eq_true rfl, rfl, rfl⟩ rfl dX1_letOn_62 rfl hl.1 (Nat.le_of_ble_eq_true rfl) ⟨Nat.le_of_ble_eq_true rfl, Nat.le_of_ble_eq_true rfl⟩) ?_
        refine k_i (c_V0 ⟨hx, hb, hml, hown, hts⟩ (metX2_getOn l X b w gi (isP_of ho (by omega)) (isB_of ho hj6) (by omega) (f_fareI (stg gi o) (gi (o + 20 + i) 1) (gi (o + 20 + i) 2))) hK hW (ltP (isP_of ho (by omega))) (Ent_P (isP_of ho (by omega))) rfl q_260 q_261 q_262 q_5 q_263 hX2_getOn ⟨Nat.le_of_ble_eq_true rfl, Nat.le_of_ble_eq_true rfl, rfl, rfl⟩ rfl dX1_letOn_65 rfl hl.1 (Nat.le_of_ble_eq_true rfl) ⟨Nat.le_of_ble_eq_true rfl, Nat.le_of_ble_eq_true rfl⟩) hS (fun r_4 g_5 H locs hp hW hS => ?_)
        obtain ⟨hr_, hg_⟩ := hp
        refine lv_iadd hx hb dX1_letOn_68 ?_
        refine w_put hx hb hts inX0 tyX0 tyX0_ok nmX0 hown hK hW hS (ltB (isB_of ho hj6)) (Ent_B (isB_of ho hj6)) rfl 6 (by decide) q_378 (fun _ h => h) rfl rfl rfl (Nat.le_of_ble_eq_true rfl) (setB (isB_of ho hj6) (by decide)) dX1_letOn_69 (fun H locs hW hS => ?_)
        refine lv_aload_n hx hb dX1_letOn_72 rfl (lv_at hl 2 rfl) ?_
        refine lv_dup hx hb dX1_letOn_73 rfl ?_
        refine w_get hx hb hts inX0 hown hK hW (ltB (isB_of ho hj6)) (Ent_B (isB_of ho hj6)) rfl 5 (by decide) q_376 (fun _ h => h) (v := .int (g_5 (o + 14 + j) 5)) (congrArg (fun z => some (Value.int z)) (by simp [u2_app])) dX1_letOn_74 ?_
        refine lv_iconst (v := 1) hx hb dX1_letOn_77 (by decide) ?_
        refine lv_iadd hx hb dX1_letOn_78 ?_
        refine w_put hx hb hts inX0 tyX0 tyX0_ok nmX0 hown hK hW hS (ltB (isB_of ho hj6)) (Ent_B (isB_of ho hj6)) rfl 5 (by decide) q_376 (fun _ h => h) rfl rfl rfl (Nat.le_of_ble_eq_true rfl) (setB (isB_of ho hj6) (by decide)) dX1_letOn_79 (fun H locs hW hS => ?_)
        refine lv_iinc (v := nI (on + 1)) (lv' := [(2, .int (nI (on + 1))), (4, .ref (b + (o + 20 + i))), (0, .ref (b + o)), (1, .ref (b + (o + 14 + j))), (3, .int (nI i))]) hx hb dX1_letOn_82 hl (k := 3) rfl ((by rw [← nI_1]; rfl)) (by decide) rfl (fun ls hl => ?_)
        refine lv_iinc (v := nI (i + 1)) (lv' := [(3, .int (nI (i + 1))), (2, .int (nI (on + 1))), (4, .ref (b + (o + 20 + i))), (0, .ref (b + o)), (1, .ref (b + (o + 14 + j)))]) hx hb dX1_letOn_85 hl (k := 4) rfl ((by rw [← nI_1]; rfl)) (by decide) rfl (fun ls hl => ?_)
        refine lv_goto (tgt := 4) hx hb dX1_letOn_88 (by decide) ?_
        exact ih_i hlt ((u2 (u2 g_5 (o + 14 + j) 6 ((gi (o + 14 + j) 6) + r_4)) (o + 14 + j) 5 ((g_5 (o + 14 + j) 5) + 1)), (on + 1)) _ _ _ (by show ((u2 (u2 g_5 (o + 14 + j) 6 ((gi (o + 14 + j) 6) + r_4)) (o + 14 + j) 5 ((g_5 (o + 14 + j) 5) + 1)), (on + 1)) = f_ons1 o (o + 14 + j) i (f_ons g o (o + 14 + j) i); rw [← hI]; unfold f_ons1; dsimp only; rw [if_pos ⟨Int32.not_le.mp c_2, f_waits1.mp c_3⟩]; show _ = (f_board gi o (o + 14 + j) (o + 20 + i), on + 1); unfold f_board; rw [hg_, hr_, f_on_B (show o + 14 + j ≠ o + 20 + i by omega)]) hW hS (lv_sub hl [3, 4, 1, 0] rfl)

set_option maxHeartbeats 1000000 in
set_option maxRecDepth 100000 in
theorem metX1_driveOn (l : Launch) (X : CX) (b : Nat) (w : Int64) (g : S2) {o nb np : Nat} (ho : isL o) (h : OkL o nb np g) {j : Nat} (hj : j < nb) : Met l yX1_driveOn (wsg yX1_driveOn cX1_driveOn 4 none) ({ frames := 3, cells := 0, slots := 0, locals := 71 }) (Pre X b g w [.ref (b + o), .ref (b + (o + 14 + j))]) (Qv X b w (fun g1 : S2 => g1 = f_drive g o (o + 14 + j) np)) 0 0 (AA b) := by
  refine Met.ofW (cc := cX1_driveOn) (maxL := 4) (ret := none) (by decide) rfl ?_
  intro p e s m args below meth c s₁ Bo hml hv
  obtain ⟨rfl, hW, hK⟩ := hv
  have hx := Bo.exec
  have hb := Bo.bytes
  have hr := Bo.returns
  have hts := hts_of (atoms_spec (ws := wsg yX1_driveOn cX1_driveOn 4 none) Bo.pre)
  have hown : s.vm.findClass RX1 = some m.cls := findClass_of_methodNamed Bo.named
  have hlocks := Bo.notSynchronized
  have hS : va_S (AA b) s.heap s.heap [] := va_S.rf
  have hl := lv_entry ([.ref (b + o), .ref (b + (o + 14 + j))]) (n := 4) (Nat.le_of_ble_eq_true rfl)
  rw [lg_entry_eq]
  generalize (lg_sl ([.ref (b + o), .ref (b + (o + 14 + j))]) ++ List.replicate (4 - (lg_sl ([.ref (b + o), .ref (b + (o + 14 + j))])).length) Slot.unset).toArray = ls at hl ⊢
  have hl : lv_has ls 4 [(0, .ref (b + o)), (1, .ref (b + (o + 14 + j)))] := hl
  have hj6 : j < 6 := Nat.lt_of_lt_of_le hj h.1.2
  obtain ⟨⟨h3, hnb⟩, ⟨h4, hnp⟩, hnum, hbus, hpas⟩ := id h
  refine lv_aload_n hx hb dX1_driveOn_0 rfl (lv_at hl 1 rfl) ?_
  refine lv_dup hx hb dX1_driveOn_1 rfl ?_
  refine w_get hx hb hts inX0 hown hK hW (ltB (isB_of ho hj6)) (Ent_B (isB_of ho hj6)) rfl 3 (by decide) q_372 (fun _ h => h) rfl dX1_driveOn_2 ?_
  refine lv_iconst (v := 1) hx hb dX1_driveOn_5 (by decide) ?_
  refine lv_isub hx hb dX1_driveOn_6 ?_
  refine w_put hx hb hts inX0 tyX0 tyX0_ok nmX0 hown hK hW hS (ltB (isB_of ho hj6)) (Ent_B (isB_of ho hj6)) rfl 3 (by decide) q_372 (fun _ h => h) rfl rfl rfl (Nat.le_of_ble_eq_true rfl) (setB (isB_of ho hj6) (by decide)) dX1_driveOn_7 (fun H locs hW hS => ?_)
  refine lv_aload_n hx hb dX1_driveOn_10 rfl (lv_at hl 1 rfl) ?_
  refine w_get hx hb hts inX0 hown hK hW (ltB (isB_of ho hj6)) (Ent_B (isB_of ho hj6)) rfl 3 (by decide) q_372 (fun _ h => h) (v := .int ((g (o + 14 + j) 3) - 1)) (congrArg (fun z => some (Value.int z)) (by simp [u2_app])) dX1_driveOn_11 ?_
  refine lv_if_le (tgt := 18) hx hb dX1_driveOn_14 (by decide) (fun c_1 => ?_) (fun c_1 => ?_)
  · refine lv_aload_n hx hb dX1_driveOn_18 rfl (lv_at hl 1 rfl) ?_
    refine lv_aload_n hx hb dX1_driveOn_19 rfl (lv_at hl 1 rfl) ?_
    refine w_get hx hb hts inX0 hown hK hW (ltB (isB_of ho hj6)) (Ent_B (isB_of ho hj6)) rfl 1 (by decide) q_368 (fun _ h => h) (v := .int (g (o + 14 + j) 1)) (congrArg (fun z => some (Value.int z)) (by simp [u2_app])) dX1_driveOn_20 ?_
    refine lv_iconst (v := 1) hx hb dX1_driveOn_23 (by decide) ?_
    refine lv_iadd hx hb dX1_driveOn_24 ?_
    refine lv_bipush (v := 10) hx hb dX1_driveOn_25 (by decide) ?_
    refine lv_irem hx hb dX1_driveOn_27 (by decide) ?_
    refine w_put hx hb hts inX0 tyX0 tyX0_ok nmX0 hown hK hW hS (ltB (isB_of ho hj6)) (Ent_B (isB_of ho hj6)) rfl 1 (by decide) q_368 (fun _ h => h) rfl rfl rfl (Nat.le_of_ble_eq_true rfl) (setB (isB_of ho hj6) (by decide)) dX1_driveOn_28 (fun H locs hW hS => ?_)
    refine lv_aload_n hx hb dX1_driveOn_31 rfl (lv_at hl 1 rfl) ?_
    refine lv_iconst (v := 0) hx hb dX1_driveOn_32 (by decide) ?_
    refine w_put hx hb hts inX0 tyX0 tyX0_ok nmX0 hown hK hW hS (ltB (isB_of ho hj6)) (Ent_B (isB_of ho hj6)) rfl 2 (by decide) q_370 (fun _ h => h) rfl (by decide) (by decide) (Nat.le_of_ble_eq_true rfl) (setB (isB_of ho hj6) (by decide)) dX1_driveOn_33 (fun H locs hW hS => ?_)
    obtain ⟨ga, ega⟩ : ∃ z, z = f_arr g (o + 14 + j) := ⟨_, rfl⟩
    replace hW : wd X b ga w H := by rw [ega]; exact hW
    have ha1 : OkL o nb np ga := by rw [ega]; exact okl_arr h hj
    refine lv_aload_n hx hb dX1_driveOn_36 rfl (lv_at hl 0 rfl) ?_
    refine lv_aload_n hx hb dX1_driveOn_37 rfl (lv_at hl 1 rfl) ?_
    refine k_i (c_V0 ⟨hx, hb, hml, hown, hts⟩ (metX1_letOff l X b w ga ho ha1 hj) hK hW (ltL ho) (Ent_L ho) rfl q_243 q_244 q_245 q_2 q_246 hX1_letOff ⟨Nat.le_of_ble_eq_true rfl, Nat.le_of_ble_eq_true rfl, rfl, rfl⟩ rfl dX1_driveOn_38 rfl hl.1 (Nat.le_of_ble_eq_true rfl) ⟨Nat.le_of_ble_eq_true rfl, Nat.le_of_ble_eq_true rfl⟩) hS (fun r_2 g_3 H locs hp hW hS => ?_)
    obtain ⟨hr1_, hg1_⟩ := hp
    have ha2 : OkL o nb np g_3 := by rw [hg1_]; exact okl_letOff ha1 hj6
    refine lv_istore_n (lv' := [(2, .int r_2), (0, .ref (b + o)), (1, .ref (b + (o + 14 + j)))]) hx hb dX1_driveOn_41 rfl hl (by decide) rfl (fun ls hl => ?_)
    refine lv_aload_n hx hb dX1_driveOn_42 rfl (lv_at hl 1 rfl) ?_
    refine lv_aload_n hx hb dX1_driveOn_43 rfl (lv_at hl 2 rfl) ?_
    refine k_i (c_V0 ⟨hx, hb, hml, hown, hts⟩ (metX1_letOn l X b w g_3 ho ha2 hj) hK hW (ltL ho) (Ent_L ho) rfl q_255 q_256 q_257 q_2 q_258 hX1_letOn ⟨Nat.le_of_ble_eq_true rfl, Nat.le_of_ble_eq_true rfl, rfl, rfl⟩ rfl dX1_driveOn_44 rfl hl.1 (Nat.le_of_ble_eq_true rfl) ⟨Nat.le_of_ble_eq_true rfl, Nat.le_of_ble_eq_true rfl⟩) hS (fun r_4 g_5 H locs hp hW hS => ?_)
    obtain ⟨hr2_, hg2_⟩ := hp
    refine lv_istore_n (lv' := [(3, .int r_4), (2, .int r_2), (0, .ref (b + o)), (1, .ref (b + (o + 14 + j)))]) hx hb dX1_driveOn_47 rfl hl (by decide) rfl (fun ls hl => ?_)
    refine lv_aload_n hx hb dX1_driveOn_48 rfl (lv_at hl 3 rfl) ?_
    refine lv_iconst (v := 1) hx hb dX1_driveOn_49 (by decide) ?_
    refine lv_iload_n hx hb dX1_driveOn_50 rfl (lv_at hl 0 rfl) ?_
    refine lv_iconst (v := 2) hx hb dX1_driveOn_51 (by decide) ?_
    refine lv_idiv hx hb dX1_driveOn_52 (by decide) ?_
    refine lv_iadd hx hb dX1_driveOn_53 ?_
    refine lv_iload_n hx hb dX1_driveOn_54 rfl (lv_at hl 1 rfl) ?_
    refine lv_iconst (v := 4) hx hb dX1_driveOn_55 (by decide) ?_
    refine lv_idiv hx hb dX1_driveOn_56 (by decide) ?_
    refine lv_iadd hx hb dX1_driveOn_57 ?_
    refine w_put hx hb hts inX0 tyX0 tyX0_ok nmX0 hown hK hW hS (ltB (isB_of ho hj6)) (Ent_B (isB_of ho hj6)) rfl 3 (by decide) q_372 (fun _ h => h) rfl rfl rfl (Nat.le_of_ble_eq_true rfl) (setB (isB_of ho hj6) (by decide)) dX1_driveOn_58 (fun H locs hW hS => ?_)
    exact W.vret hx hb hr (fun t9 ht9 _ => ⟨⟨(u2 g_5 (o + 14 + j) 3 ((1 + (r_4 / 2)) + (r_2 / 4))), rfl, (by unfold f_drive; rw [if_neg (Int32.not_lt.mpr c_1), ← ega, ← hg1_, ← hr1_, ← hr2_, ← hg2_]), by show wd X b _ w t9.heap; rw [ht9]; exact hW⟩, hS.F ht9⟩) hS.2.2 dX1_driveOn_61
  · exact W.vret hx hb hr (fun t9 ht9 _ => ⟨⟨(u2 g (o + 14 + j) 3 ((g (o + 14 + j) 3) - 1)), rfl, (by unfold f_drive; rw [if_pos (Int32.not_le.mp c_1)]), by show wd X b _ w t9.heap; rw [ht9]; exact hW⟩, hS.F ht9⟩) hS.2.2 dX1_driveOn_17

set_option maxHeartbeats 1000000 in
set_option maxRecDepth 100000 in
theorem metX1_standOn (l : Launch) (X : CX) (b : Nat) (w : Int64) (g : S2) {o nb np : Nat} (ho : isL o) (h : OkL o nb np g) {j : Nat} (hj : j < nb) : Met l yX1_standOn (wsg yX1_standOn cX1_standOn 3 none) ({ frames := 1, cells := 0, slots := 0, locals := 22 }) (Pre X b g w [.ref (b + o), .ref (b + (o + 14 + j))]) (Qv X b w (fun g1 : S2 => g1 = f_stand g o (o + 14 + j))) 0 0 (AA b) := by
  refine Met.ofW (cc := cX1_standOn) (maxL := 3) (ret := none) (by decide) rfl ?_
  intro p e s m args below meth c s₁ Bo hml hv
  obtain ⟨rfl, hW, hK⟩ := hv
  have hx := Bo.exec
  have hb := Bo.bytes
  have hr := Bo.returns
  have hts := hts_of (atoms_spec (ws := wsg yX1_standOn cX1_standOn 3 none) Bo.pre)
  have hown : s.vm.findClass RX1 = some m.cls := findClass_of_methodNamed Bo.named
  have hlocks := Bo.notSynchronized
  have hS : va_S (AA b) s.heap s.heap [] := va_S.rf
  have hl := lv_entry ([.ref (b + o), .ref (b + (o + 14 + j))]) (n := 3) (Nat.le_of_ble_eq_true rfl)
  rw [lg_entry_eq]
  generalize (lg_sl ([.ref (b + o), .ref (b + (o + 14 + j))]) ++ List.replicate (3 - (lg_sl ([.ref (b + o), .ref (b + (o + 14 + j))])).length) Slot.unset).toArray = ls at hl ⊢
  have hl : lv_has ls 3 [(0, .ref (b + o)), (1, .ref (b + (o + 14 + j)))] := hl
  have hj6 : j < 6 := Nat.lt_of_lt_of_le hj h.1.2
  obtain ⟨⟨h3, hnb⟩, ⟨h4, hnp⟩, hnum, hbus, hpas⟩ := id h
  refine lv_aload_n hx hb dX1_standOn_0 rfl (lv_at hl 1 rfl) ?_
  refine w_get hx hb hts inX0 hown hK hW (ltB (isB_of ho hj6)) (Ent_B (isB_of ho hj6)) rfl 3 (by decide) q_372 (fun _ h => h) rfl dX1_standOn_1 ?_
  refine lv_if_le (tgt := 17) hx hb dX1_standOn_4 (by decide) (fun c_1 => ?_) (fun c_1 => ?_)
  · obtain ⟨ga, ega⟩ : ∃ z, z = f_std1 g (o + 14 + j) := ⟨_, rfl⟩
    replace hW : wd X b ga w s.heap := by rw [ega]; unfold f_std1; rw [if_neg (Int32.not_lt.mpr c_1)]; exact hW
    have ha1 : OkL o nb np ga := by rw [ega]; exact okl_std1 h hj
    obtain ⟨hc10, hcx⟩ := (ha1.2.2.2.1 j hj).1.cl
    refine lv_aload_n hx hb dX1_standOn_17 rfl (lv_at hl 0 rfl) ?_
    refine lv_aload_n hx hb dX1_standOn_18 rfl (lv_at hl 1 rfl) ?_
    refine w_get hx hb hts inX0 hown hK hW (ltB (isB_of ho hj6)) (Ent_B (isB_of ho hj6)) rfl 1 (by decide) q_368 (fun _ h => h) rfl dX1_standOn_19 ?_
    refine k_Rr (c_V0 ⟨hx, hb, hml, hown, hts⟩ (metX1_stopAt10 l X b w ga ho hcx hc10) hK hW (ltL ho) (Ent_L ho) rfl q_151 q_110 q_111 q_2 q_112 hX1_stopAt ⟨Nat.le_of_ble_eq_true rfl, Nat.le_of_ble_eq_true rfl, rfl, rfl⟩ rfl dX1_standOn_22 rfl hl.1 (Nat.le_of_ble_eq_true rfl) ⟨Nat.le_of_ble_eq_true rfl, Nat.le_of_ble_eq_true rfl⟩) ?_
    refine lv_astore_n (lv' := [(2, .ref (b + (o + 4 + cl (ga (o + 14 + j) 1)))), (0, .ref (b + o)), (1, .ref (b + (o + 14 + j)))]) hx hb dX1_standOn_25 rfl hl (by decide) rfl (fun ls hl => ?_)
    refine lv_aload_n hx hb dX1_standOn_26 rfl (lv_at hl 2 rfl) ?_
    refine w_get hx hb hts inX0 hown hK hW (ltB (isB_of ho hj6)) (Ent_B (isB_of ho hj6)) rfl 3 (by decide) q_372 (fun _ h => h) rfl dX1_standOn_27 ?_
    refine lv_if_ne (tgt := 69) hx hb dX1_standOn_30 (by decide) (fun c_2 => ?_) (fun c_2 => ?_)
    · exact W.vret hx hb hr (fun t9 ht9 _ => ⟨⟨ga, rfl, (by unfold f_stand f_std2; rw [← ega, if_neg (fun z => c_2 z.1)]), by show wd X b _ w t9.heap; rw [ht9]; exact hW⟩, hS.F ht9⟩) hS.2.2 dX1_standOn_69
    · refine lv_aload_n hx hb dX1_standOn_33 rfl (lv_at hl 0 rfl) ?_
      refine lv_aload_n hx hb dX1_standOn_34 rfl (lv_at hl 1 rfl) ?_
      refine w_get hx hb hts inX1 hown hK hW (ltL ho) (Ent_L ho) rfl 5 (by decide) q_441 (fun _ h => h) rfl dX1_standOn_35 ?_
      refine lv_aload_n hx hb dX1_standOn_38 rfl (lv_at hl 1 rfl) ?_
      refine w_get hx hb hts inX1 hown hK hW (ltL ho) (Ent_L ho) rfl 6 (by decide) q_443 (fun _ h => h) rfl dX1_standOn_39 ?_
      refine k_R (c_V0 ⟨hx, hb, hml, hown, hts⟩ (metX3_letsLeave l X b w ga (isS_of ho hc10) (ga o 5) (ga o 6)) hK hW (ltS (isS_of ho hc10)) (Ent_S (isS_of ho hc10)) rfl q_268 q_269 q_270 q_3 q_271 hX3_letsLeave ⟨Nat.le_of_ble_eq_true rfl, Nat.le_of_ble_eq_true rfl, rfl, rfl⟩ rfl dX1_standOn_42 rfl hl.1 (Nat.le_of_ble_eq_true rfl) ⟨Nat.le_of_ble_eq_true rfl, Nat.le_of_ble_eq_true rfl⟩) ?_
      refine lv_if_eq (tgt := 69) hx hb dX1_standOn_45 (by decide) (fun c_3 => ?_) (fun c_3 => ?_)
      · exact W.vret hx hb hr (fun t9 ht9 _ => ⟨⟨ga, rfl, (by unfold f_stand f_std2; rw [← ega, if_neg (fun z => absurd (z.2.symm.trans c_3) (by decide))]), by show wd X b _ w t9.heap; rw [ht9]; exact hW⟩, hS.F ht9⟩) hS.2.2 dX1_standOn_69
      · refine lv_aload_n hx hb dX1_standOn_48 rfl (lv_at hl 0 rfl) ?_
        refine lv_aload_n hx hb dX1_standOn_49 rfl (lv_at hl 1 rfl) ?_
        refine w_get hx hb hts inX1 hown hK hW (ltL ho) (Ent_L ho) rfl 5 (by decide) q_441 (fun _ h => h) rfl dX1_standOn_50 ?_
        refine w_put hx hb hts inX3 tyX3 tyX3_ok nmX3 hown hK hW hS (ltS (isS_of ho hc10)) (Ent_S (isS_of ho hc10)) rfl 2 (by decide) q_351 (fun _ h => h) rfl rfl rfl (Nat.le_of_ble_eq_true rfl) (setS (isS_of ho hc10) (by decide)) dX1_standOn_53 (fun H locs hW hS => ?_)
        refine lv_aload_n hx hb dX1_standOn_56 rfl (lv_at hl 2 rfl) ?_
        refine lv_iconst (v := 1) hx hb dX1_standOn_57 (by decide) ?_
        refine w_put hx hb hts inX0 tyX0 tyX0_ok nmX0 hown hK hW hS (ltB (isB_of ho hj6)) (Ent_B (isB_of ho hj6)) rfl 2 (by decide) q_370 (fun _ h => h) rfl (by decide) (by decide) (Nat.le_of_ble_eq_true rfl) (setB (isB_of ho hj6) (by decide)) dX1_standOn_58 (fun H locs hW hS => ?_)
        refine lv_aload_n hx hb dX1_standOn_61 rfl (lv_at hl 2 rfl) ?_
        refine lv_aload_n hx hb dX1_standOn_62 rfl (lv_at hl 0 rfl) ?_
        refine w_get hx hb hts inX3 hown hK hW (ltS (isS_of ho hc10)) (Ent_S (isS_of ho hc10)) rfl 0 (by decide) q_346 (fun _ h => h) rfl dX1_standOn_63 ?_
        refine w_put hx hb hts inX0 tyX0 tyX0_ok nmX0 hown hK hW hS (ltB (isB_of ho hj6)) (Ent_B (isB_of ho hj6)) rfl 3 (by decide) q_372 (fun _ h => h) rfl rfl rfl (Nat.le_of_ble_eq_true rfl) (setB (isB_of ho hj6) (by decide)) dX1_standOn_66 (fun H locs hW hS => ?_)
        exact W.vret hx hb hr (fun t9 ht9 _ => ⟨⟨(u2 (u2 (u2 ga (o + 4 + cl (ga (o + 14 + j) 1)) 2 (ga o 5)) (o + 14 + j) 2 1) (o + 14 + j) 3 ((u2 (u2 ga (o + 4 + cl (ga (o + 14 + j) 1)) 2 (ga o 5)) (o + 14 + j) 2 1) (o + 4 + cl (ga (o + 14 + j) 1)) 0)), rfl, (by unfold f_stand f_std2; rw [← ega, if_pos ⟨c_2, f_lets01.resolve_left c_3⟩, u2_n (show o + 4 + cl (ga (o + 14 + j) 1) ≠ o + 14 + j by omega), u2_k (by decide)]), by show wd X b _ w t9.heap; rw [ht9]; exact hW⟩, hS.F ht9⟩) hS.2.2 dX1_standOn_69
  · refine lv_aload_n hx hb dX1_standOn_7 rfl (lv_at hl 1 rfl) ?_
    refine lv_dup hx hb dX1_standOn_8 rfl ?_
    refine w_get hx hb hts inX0 hown hK hW (ltB (isB_of ho hj6)) (Ent_B (isB_of ho hj6)) rfl 3 (by decide) q_372 (fun _ h => h) rfl dX1_standOn_9 ?_
    refine lv_iconst (v := 1) hx hb dX1_standOn_12 (by decide) ?_
    refine lv_isub hx hb dX1_standOn_13 ?_
    refine w_put hx hb hts inX0 tyX0 tyX0_ok nmX0 hown hK hW hS (ltB (isB_of ho hj6)) (Ent_B (isB_of ho hj6)) rfl 3 (by decide) q_372 (fun _ h => h) rfl rfl rfl (Nat.le_of_ble_eq_true rfl) (setB (isB_of ho hj6) (by decide)) dX1_standOn_14 (fun H locs hW hS => ?_)
    obtain ⟨ga, ega⟩ : ∃ z, z = f_std1 g (o + 14 + j) := ⟨_, rfl⟩
    replace hW : wd X b ga w H := by rw [ega]; unfold f_std1; rw [if_pos (Int32.not_le.mp c_1)]; exact hW
    have ha1 : OkL o nb np ga := by rw [ega]; exact okl_std1 h hj
    obtain ⟨hc10, hcx⟩ := (ha1.2.2.2.1 j hj).1.cl
    refine lv_aload_n hx hb dX1_standOn_17 rfl (lv_at hl 0 rfl) ?_
    refine lv_aload_n hx hb dX1_standOn_18 rfl (lv_at hl 1 rfl) ?_
    refine w_get hx hb hts inX0 hown hK hW (ltB (isB_of ho hj6)) (Ent_B (isB_of ho hj6)) rfl 1 (by decide) q_368 (fun _ h => h) rfl dX1_standOn_19 ?_
    refine k_Rr (c_V0 ⟨hx, hb, hml, hown, hts⟩ (metX1_stopAt10 l X b w ga ho hcx hc10) hK hW (ltL ho) (Ent_L ho) rfl q_151 q_110 q_111 q_2 q_112 hX1_stopAt ⟨Nat.le_of_ble_eq_true rfl, Nat.le_of_ble_eq_true rfl, rfl, rfl⟩ rfl dX1_standOn_22 rfl hl.1 (Nat.le_of_ble_eq_true rfl) ⟨Nat.le_of_ble_eq_true rfl, Nat.le_of_ble_eq_true rfl⟩) ?_
    refine lv_astore_n (lv' := [(2, .ref (b + (o + 4 + cl (ga (o + 14 + j) 1)))), (0, .ref (b + o)), (1, .ref (b + (o + 14 + j)))]) hx hb dX1_standOn_25 rfl hl (by decide) rfl (fun ls hl => ?_)
    refine lv_aload_n hx hb dX1_standOn_26 rfl (lv_at hl 2 rfl) ?_
    refine w_get hx hb hts inX0 hown hK hW (ltB (isB_of ho hj6)) (Ent_B (isB_of ho hj6)) rfl 3 (by decide) q_372 (fun _ h => h) rfl dX1_standOn_27 ?_
    refine lv_if_ne (tgt := 69) hx hb dX1_standOn_30 (by decide) (fun c_4 => ?_) (fun c_4 => ?_)
    · exact W.vret hx hb hr (fun t9 ht9 _ => ⟨⟨ga, rfl, (by unfold f_stand f_std2; rw [← ega, if_neg (fun z => c_4 z.1)]), by show wd X b _ w t9.heap; rw [ht9]; exact hW⟩, hS.F ht9⟩) hS.2.2 dX1_standOn_69
    · refine lv_aload_n hx hb dX1_standOn_33 rfl (lv_at hl 0 rfl) ?_
      refine lv_aload_n hx hb dX1_standOn_34 rfl (lv_at hl 1 rfl) ?_
      refine w_get hx hb hts inX1 hown hK hW (ltL ho) (Ent_L ho) rfl 5 (by decide) q_441 (fun _ h => h) rfl dX1_standOn_35 ?_
      refine lv_aload_n hx hb dX1_standOn_38 rfl (lv_at hl 1 rfl) ?_
      refine w_get hx hb hts inX1 hown hK hW (ltL ho) (Ent_L ho) rfl 6 (by decide) q_443 (fun _ h => h) rfl dX1_standOn_39 ?_
      refine k_R (c_V0 ⟨hx, hb, hml, hown, hts⟩ (metX3_letsLeave l X b w ga (isS_of ho hc10) (ga o 5) (ga o 6)) hK hW (ltS (isS_of ho hc10)) (Ent_S (isS_of ho hc10)) rfl q_268 q_269 q_270 q_3 q_271 hX3_letsLeave ⟨Nat.le_of_ble_eq_true rfl, Nat.le_of_ble_eq_true rfl, rfl, rfl⟩ rfl dX1_standOn_42 rfl hl.1 (Nat.le_of_ble_eq_true rfl) ⟨Nat.le_of_ble_eq_true rfl, Nat.le_of_ble_eq_true rfl⟩) ?_
      refine lv_if_eq (tgt := 69) hx hb dX1_standOn_45 (by decide) (fun c_5 => ?_) (fun c_5 => ?_)
      · exact W.vret hx hb hr (fun t9 ht9 _ => ⟨⟨ga, rfl, (by unfold f_stand f_std2; rw [← ega, if_neg (fun z => absurd (z.2.symm.trans c_5) (by decide))]), by show wd X b _ w t9.heap; rw [ht9]; exact hW⟩, hS.F ht9⟩) hS.2.2 dX1_standOn_69
      · refine lv_aload_n hx hb dX1_standOn_48 rfl (lv_at hl 0 rfl) ?_
        refine lv_aload_n hx hb dX1_standOn_49 rfl (lv_at hl 1 rfl) ?_
        refine w_get hx hb hts inX1 hown hK hW (ltL ho) (Ent_L ho) rfl 5 (by decide) q_441 (fun _ h => h) rfl dX1_standOn_50 ?_
        refine w_put hx hb hts inX3 tyX3 tyX3_ok nmX3 hown hK hW hS (ltS (isS_of ho hc10)) (Ent_S (isS_of ho hc10)) rfl 2 (by decide) q_351 (fun _ h => h) rfl rfl rfl (Nat.le_of_ble_eq_true rfl) (setS (isS_of ho hc10) (by decide)) dX1_standOn_53 (fun H locs hW hS => ?_)
        refine lv_aload_n hx hb dX1_standOn_56 rfl (lv_at hl 2 rfl) ?_
        refine lv_iconst (v := 1) hx hb dX1_standOn_57 (by decide) ?_
        refine w_put hx hb hts inX0 tyX0 tyX0_ok nmX0 hown hK hW hS (ltB (isB_of ho hj6)) (Ent_B (isB_of ho hj6)) rfl 2 (by decide) q_370 (fun _ h => h) rfl (by decide) (by decide) (Nat.le_of_ble_eq_true rfl) (setB (isB_of ho hj6) (by decide)) dX1_standOn_58 (fun H locs hW hS => ?_)
        refine lv_aload_n hx hb dX1_standOn_61 rfl (lv_at hl 2 rfl) ?_
        refine lv_aload_n hx hb dX1_standOn_62 rfl (lv_at hl 0 rfl) ?_
        refine w_get hx hb hts inX3 hown hK hW (ltS (isS_of ho hc10)) (Ent_S (isS_of ho hc10)) rfl 0 (by decide) q_346 (fun _ h => h) rfl dX1_standOn_63 ?_
        refine w_put hx hb hts inX0 tyX0 tyX0_ok nmX0 hown hK hW hS (ltB (isB_of ho hj6)) (Ent_B (isB_of ho hj6)) rfl 3 (by decide) q_372 (fun _ h => h) rfl rfl rfl (Nat.le_of_ble_eq_true rfl) (setB (isB_of ho hj6) (by decide)) dX1_standOn_66 (fun H locs hW hS => ?_)
        exact W.vret hx hb hr (fun t9 ht9 _ => ⟨⟨(u2 (u2 (u2 ga (o + 4 + cl (ga (o + 14 + j) 1)) 2 (ga o 5)) (o + 14 + j) 2 1) (o + 14 + j) 3 ((u2 (u2 ga (o + 4 + cl (ga (o + 14 + j) 1)) 2 (ga o 5)) (o + 14 + j) 2 1) (o + 4 + cl (ga (o + 14 + j) 1)) 0)), rfl, (by unfold f_stand f_std2; rw [← ega, if_pos ⟨c_4, f_lets01.resolve_left c_5⟩, u2_n (show o + 4 + cl (ga (o + 14 + j) 1) ≠ o + 14 + j by omega), u2_k (by decide)]), by show wd X b _ w t9.heap; rw [ht9]; exact hW⟩, hS.F ht9⟩) hS.2.2 dX1_standOn_69

set_option maxHeartbeats 1000000 in
set_option maxRecDepth 100000 in
theorem metX1_passMinute (l : Launch) (X : CX) (b : Nat) (w : Int64) (g : S2) {o nb np : Nat} (ho : isL o) (h : OkL o nb np g) : Met l yX1_passMinute (wsg yX1_passMinute cX1_passMinute 3 none) ({ frames := 4, cells := 0, slots := 0, locals := 94 }) (Pre X b g w [.ref (b + o)]) (Qv X b w (fun g1 : S2 => g1 = f_min g o nb np)) 0 0 (AA b) := by
  refine Met.ofW (cc := cX1_passMinute) (maxL := 3) (ret := none) (by decide) rfl ?_
  intro p e s m args below meth c s₁ Bo hml hv
  obtain ⟨rfl, hW, hK⟩ := hv
  have hx := Bo.exec
  have hb := Bo.bytes
  have hr := Bo.returns
  have hts := hts_of (atoms_spec (ws := wsg yX1_passMinute cX1_passMinute 3 none) Bo.pre)
  have hown : s.vm.findClass RX1 = some m.cls := findClass_of_methodNamed Bo.named
  have hlocks := Bo.notSynchronized
  have hS : va_S (AA b) s.heap s.heap [] := va_S.rf
  have hl := lv_entry ([.ref (b + o)]) (n := 3) (Nat.le_of_ble_eq_true rfl)
  rw [lg_entry_eq]
  generalize (lg_sl ([.ref (b + o)]) ++ List.replicate (3 - (lg_sl ([.ref (b + o)])).length) Slot.unset).toArray = ls at hl ⊢
  have hl : lv_has ls 3 [(0, .ref (b + o))] := hl
  obtain ⟨⟨h3, hnb⟩, ⟨h4, hnp⟩, hnum, hbus, hpas⟩ := id h
  refine lv_iconst (v := 0) hx hb dX1_passMinute_0 (by decide) ?_
  refine lv_istore_n (lv' := [(1, .int 0), (0, .ref (b + o))]) hx hb dX1_passMinute_1 rfl hl (by decide) rfl (fun ls hl => ?_)
  refine w_loop (σ := S2) (nb) (fun i x9 => x9 = f_buses g o np i) (fun i x9 => x9) (fun i x9 => [(0, .ref (b + o)), (1, .int (nI i))]) 0 (g) (Nat.zero_le _) rfl hW hS (lv_sub hl [1, 0] rfl) ?_
  clear hW hS hl
  intro i gi H locs ls hi_i hI hW hS hl ih_i
  replace hl : lv_has ls 3 [(0, .ref (b + o)), (1, .int (nI i))] := hl
  replace hI : gi = f_buses g o np i := hI
  replace hW : wd X b gi w H := hW
  have h1 : OkL o nb np gi := by rw [hI]; exact okl_buses h i hi_i
  obtain ⟨⟨h3, -⟩, ⟨h4, -⟩, -, hbus, hpas⟩ := id h1
  refine lv_iload_n hx hb dX1_passMinute_2 rfl (lv_at hl 1 rfl) ?_
  refine lv_aload_n hx hb dX1_passMinute_3 rfl (lv_at hl 0 rfl) ?_
  refine w_get hx hb hts inX1 hown hK hW (ltL ho) (Ent_L ho) rfl 3 (by decide) q_437 (fun _ h => h) rfl dX1_passMinute_4 ?_
  refine lv_icmp_ge (tgt := 43) hx hb dX1_passMinute_7 (by decide) (fun c_1 => ?_) (fun c_1 => ?_)
  · have hin := br_le h3 rfl (by omega) (by omega) c_1
    obtain rfl : nb = i := by omega
    have hb_ : gi = f_buses g o np nb := hI
    clear hI
    refine lv_iconst (v := 0) hx hb dX1_passMinute_43 (by decide) ?_
    refine lv_istore_n (lv' := [(1, .int 0), (0, .ref (b + o))]) hx hb dX1_passMinute_44 rfl hl (by decide) rfl (fun ls hl => ?_)
    refine w_loop (σ := S2) (np) (fun i x9 => x9 = f_waitN gi o i) (fun i x9 => x9) (fun i x9 => [(0, .ref (b + o)), (1, .int (nI i))]) 0 (gi) (Nat.zero_le _) rfl hW hS (lv_sub hl [1, 0] rfl) ?_
    clear hW hS hl
    intro i gk H locs ls hi_i hI hW hS hl ih_i
    replace hl : lv_has ls 3 [(0, .ref (b + o)), (1, .int (nI i))] := hl
    replace hI : gk = f_waitN gi o i := hI
    replace hW : wd X b gk w H := hW
    have h2 : OkL o nb np gk := by rw [hI]; exact okl_waitN h1 i hi_i
    obtain ⟨⟨h3, -⟩, ⟨h4, -⟩, -, hbus, hpas⟩ := id h2
    refine lv_iload_n hx hb dX1_passMinute_45 rfl (lv_at hl 1 rfl) ?_
    refine lv_aload_n hx hb dX1_passMinute_46 rfl (lv_at hl 0 rfl) ?_
    refine w_get hx hb hts inX1 hown hK hW (ltL ho) (Ent_L ho) rfl 4 (by decide) q_439 (fun _ h => h) rfl dX1_passMinute_47 ?_
    refine lv_icmp_ge (tgt := 86) hx hb dX1_passMinute_50 (by decide) (fun c_2 => ?_) (fun c_2 => ?_)
    · have hin := br_le h4 rfl (by omega) (by omega) c_2
      obtain rfl : np = i := by omega
      refine lv_aload_n hx hb dX1_passMinute_86 rfl (lv_at hl 0 rfl) ?_
      refine lv_dup hx hb dX1_passMinute_87 rfl ?_
      refine w_get hx hb hts inX1 hown hK hW (ltL ho) (Ent_L ho) rfl 5 (by decide) q_441 (fun _ h => h) rfl dX1_passMinute_88 ?_
      refine lv_iconst (v := 1) hx hb dX1_passMinute_91 (by decide) ?_
      refine lv_iadd hx hb dX1_passMinute_92 ?_
      refine w_put hx hb hts inX1 tyX1 tyX1_ok nmX1 hown hK hW hS (ltL ho) (Ent_L ho) rfl 5 (by decide) q_441 (fun _ h => h) rfl rfl rfl (Nat.le_of_ble_eq_true rfl) (setL ho (by decide) (by decide)) dX1_passMinute_93 (fun H locs hW hS => ?_)
      exact W.vret hx hb hr (fun t9 ht9 _ => ⟨⟨(u2 gk o 5 ((gk o 5) + 1)), rfl, (by unfold f_min f_tick; rw [← hb_, ← hI]), by show wd X b _ w t9.heap; rw [ht9]; exact hW⟩, hS.F ht9⟩) hS.2.2 dX1_passMinute_96
    · have hlt := br_nle h4 rfl (by omega) (by omega) c_2
      refine lv_aload_n hx hb dX1_passMinute_53 rfl (lv_at hl 0 rfl) ?_
      refine w_get hx hb hts inX1 hown hK hW (ltL ho) (Ent_L ho) rfl 2 (by decide) q_435 (fun _ h => h) rfl dX1_passMinute_54 ?_
      refine lv_iload_n hx hb dX1_passMinute_57 rfl (lv_at hl 1 rfl) ?_
      refine w_aldP hx hb hK hW ho i rfl (by omega) dX1_passMinute_58 ?_
      refine w_get hx hb hts inX2 hown hK hW (ltP (isP_of ho (by omega))) (Ent_P (isP_of ho (by omega))) rfl 0 (by decide) q_401 (fun _ h => h) rfl dX1_passMinute_59 ?_
      refine lv_if_ne (tgt := 80) hx hb dX1_passMinute_62 (by decide) (fun c_3 => ?_) (fun c_3 => ?_)
      · refine lv_iinc (v := nI (i + 1)) (lv' := [(1, .int (nI (i + 1))), (0, .ref (b + o))]) hx hb dX1_passMinute_80 hl (k := 1) rfl ((by rw [← nI_1]; rfl)) (by decide) rfl (fun ls hl => ?_)
        refine lv_goto (tgt := 45) hx hb dX1_passMinute_83 (by decide) ?_
        exact ih_i hlt (gk) _ _ _ (by show gk = f_wait1 (f_waitN gi o i) o i; rw [← hI]; unfold f_wait1; rw [if_neg c_3]) hW hS (lv_sub hl [1, 0] rfl)
      · refine lv_aload_n hx hb dX1_passMinute_65 rfl (lv_at hl 0 rfl) ?_
        refine w_get hx hb hts inX1 hown hK hW (ltL ho) (Ent_L ho) rfl 2 (by decide) q_435 (fun _ h => h) rfl dX1_passMinute_66 ?_
        refine lv_iload_n hx hb dX1_passMinute_69 rfl (lv_at hl 1 rfl) ?_
        refine w_aldP hx hb hK hW ho i rfl (by omega) dX1_passMinute_70 ?_
        refine lv_dup hx hb dX1_passMinute_71 rfl ?_
        refine w_get hx hb hts inX2 hown hK hW (ltP (isP_of ho (by omega))) (Ent_P (isP_of ho (by omega))) rfl 5 (by decide) q_411 (fun _ h => h) rfl dX1_passMinute_72 ?_
        refine lv_iconst (v := 1) hx hb dX1_passMinute_75 (by decide) ?_
        refine lv_iadd hx hb dX1_passMinute_76 ?_
        refine w_put hx hb hts inX2 tyX2 tyX2_ok nmX2 hown hK hW hS (ltP (isP_of ho (by omega))) (Ent_P (isP_of ho (by omega))) rfl 5 (by decide) q_411 (fun _ h => h) rfl rfl rfl (Nat.le_of_ble_eq_true rfl) (setP (isP_of ho (by omega)) (by decide)) dX1_passMinute_77 (fun H locs hW hS => ?_)
        refine lv_iinc (v := nI (i + 1)) (lv' := [(1, .int (nI (i + 1))), (0, .ref (b + o))]) hx hb dX1_passMinute_80 hl (k := 1) rfl ((by rw [← nI_1]; rfl)) (by decide) rfl (fun ls hl => ?_)
        refine lv_goto (tgt := 45) hx hb dX1_passMinute_83 (by decide) ?_
        exact ih_i hlt ((u2 gk (o + 20 + i) 5 ((gk (o + 20 + i) 5) + 1))) _ _ _ (by show (u2 gk (o + 20 + i) 5 ((gk (o + 20 + i) 5) + 1)) = f_wait1 (f_waitN gi o i) o i; rw [← hI]; unfold f_wait1; rw [if_pos c_3]) hW hS (lv_sub hl [1, 0] rfl)
  · have hlt := br_nle h3 rfl (by omega) (by omega) c_1
    refine lv_aload_n hx hb dX1_passMinute_10 rfl (lv_at hl 0 rfl) ?_
    refine w_get hx hb hts inX1 hown hK hW (ltL ho) (Ent_L ho) rfl 1 (by decide) q_433 (fun _ h => h) rfl dX1_passMinute_11 ?_
    refine lv_iload_n hx hb dX1_passMinute_14 rfl (lv_at hl 1 rfl) ?_
    refine w_aldB hx hb hK hW ho i rfl (by omega) dX1_passMinute_15 ?_
    refine lv_astore_n (lv' := [(2, .ref (b + (o + 14 + i))), (0, .ref (b + o)), (1, .int (nI i))]) hx hb dX1_passMinute_16 rfl hl (by decide) rfl (fun ls hl => ?_)
    refine lv_aload_n hx hb dX1_passMinute_17 rfl (lv_at hl 0 rfl) ?_
    refine w_get hx hb hts inX0 hown hK hW (ltB (isB_of ho (by omega))) (Ent_B (isB_of ho (by omega))) rfl 2 (by decide) q_370 (fun _ h => h) rfl dX1_passMinute_18 ?_
    refine lv_if_eq (tgt := 32) hx hb dX1_passMinute_21 (by decide) (fun c_4 => ?_) (fun c_4 => ?_)
    · refine lv_aload_n hx hb dX1_passMinute_32 rfl (lv_at hl 1 rfl) ?_
      refine lv_aload_n hx hb dX1_passMinute_33 rfl (lv_at hl 0 rfl) ?_
      refine k_v (c_V0 ⟨hx, hb, hml, hown, hts⟩ (metX1_standOn l X b w gi ho h1 hlt) hK hW (ltL ho) (Ent_L ho) rfl q_264 q_265 q_266 q_2 q_267 hX1_standOn ⟨Nat.le_of_ble_eq_true rfl, Nat.le_of_ble_eq_true rfl, rfl, rfl⟩ rfl dX1_passMinute_34 rfl hl.1 (Nat.le_of_ble_eq_true rfl) ⟨Nat.le_of_ble_eq_true rfl, Nat.le_of_ble_eq_true rfl⟩) hS (fun g_5 H locs hp hW hS => ?_)
      refine lv_iinc (v := nI (i + 1)) (lv' := [(1, .int (nI (i + 1))), (2, .ref (b + (o + 14 + i))), (0, .ref (b + o))]) hx hb dX1_passMinute_37 hl (k := 2) rfl ((by rw [← nI_1]; rfl)) (by decide) rfl (fun ls hl => ?_)
      refine lv_goto (tgt := 2) hx hb dX1_passMinute_40 (by decide) ?_
      exact ih_i hlt (g_5) _ _ _ (by show g_5 = f_bus1 (f_buses g o np i) o np i; rw [← hI]; unfold f_bus1; rw [if_pos c_4, hp]) hW hS (lv_sub hl [2, 0] rfl)
    · refine lv_aload_n hx hb dX1_passMinute_24 rfl (lv_at hl 1 rfl) ?_
      refine lv_aload_n hx hb dX1_passMinute_25 rfl (lv_at hl 0 rfl) ?_
      refine k_v (c_V0 ⟨hx, hb, hml, hown, hts⟩ (metX1_driveOn l X b w gi ho h1 hlt) hK hW (ltL ho) (Ent_L ho) rfl q_239 q_240 q_241 q_2 q_242 hX1_driveOn ⟨Nat.le_of_ble_eq_true rfl, Nat.le_of_ble_eq_true rfl, rfl, rfl⟩ rfl dX1_passMinute_26 rfl hl.1 (Nat.le_of_ble_eq_true rfl) ⟨Nat.le_of_ble_eq_true rfl, Nat.le_of_ble_eq_true rfl⟩) hS (fun g_6 H locs hp hW hS => ?_)
      refine lv_goto (tgt := 37) hx hb dX1_passMinute_29 (by decide) ?_
      refine lv_iinc (v := nI (i + 1)) (lv' := [(1, .int (nI (i + 1))), (2, .ref (b + (o + 14 + i))), (0, .ref (b + o))]) hx hb dX1_passMinute_37 hl (k := 2) rfl ((by rw [← nI_1]; rfl)) (by decide) rfl (fun ls hl => ?_)
      refine lv_goto (tgt := 2) hx hb dX1_passMinute_40 (by decide) ?_
      exact ih_i hlt (g_6) _ _ _ (by show g_6 = f_bus1 (f_buses g o np i) o np i; rw [← hI]; unfold f_bus1; rw [if_neg c_4, hp]) hW hS (lv_sub hl [2, 0] rfl)

set_option maxHeartbeats 1000000 in
set_option maxRecDepth 100000 in
theorem metX1_passMinutes (l : Launch) (X : CX) (b : Nat) (w : Int64) (g : S2) {o nb np : Nat} (ho : isL o) (h : OkL o nb np g) (mm : Nat) (hmm : mm ≤ 120) : Met l yX1_passMinutes (wsg yX1_passMinutes cX1_passMinutes 3 none) ({ frames := 5, cells := 0, slots := 0, locals := 116 }) (Pre X b g w [.ref (b + o), .int (nI mm)]) (Qv X b w (fun g1 : S2 => g1 = f_mins g o nb np mm)) 0 0 (AA b) := by
  refine Met.ofW (cc := cX1_passMinutes) (maxL := 3) (ret := none) (by decide) rfl ?_
  intro p e s m args below meth c s₁ Bo hml hv
  obtain ⟨rfl, hW, hK⟩ := hv
  have hx := Bo.exec
  have hb := Bo.bytes
  have hr := Bo.returns
  have hts := hts_of (atoms_spec (ws := wsg yX1_passMinutes cX1_passMinutes 3 none) Bo.pre)
  have hown : s.vm.findClass RX1 = some m.cls := findClass_of_methodNamed Bo.named
  have hlocks := Bo.notSynchronized
  have hS : va_S (AA b) s.heap s.heap [] := va_S.rf
  have hl := lv_entry ([.ref (b + o), .int (nI mm)]) (n := 3) (Nat.le_of_ble_eq_true rfl)
  rw [lg_entry_eq]
  generalize (lg_sl ([.ref (b + o), .int (nI mm)]) ++ List.replicate (3 - (lg_sl ([.ref (b + o), .int (nI mm)])).length) Slot.unset).toArray = ls at hl ⊢
  have hl : lv_has ls 3 [(0, .ref (b + o)), (1, .int (nI mm))] := hl
  refine lv_iconst (v := 0) hx hb dX1_passMinutes_0 (by decide) ?_
  refine lv_istore_n (lv' := [(2, .int 0), (0, .ref (b + o)), (1, .int (nI mm))]) hx hb dX1_passMinutes_1 rfl hl (by decide) rfl (fun ls hl => ?_)
  refine w_loop (σ := S2) (mm) (fun i x9 => x9 = f_mins g o nb np i) (fun i x9 => x9) (fun i x9 => [(0, .ref (b + o)), (1, .int (nI mm)), (2, .int (nI i))]) 0 (g) (Nat.zero_le _) rfl hW hS (lv_sub hl [1, 2, 0] rfl) ?_
  clear hW hS hl
  intro i gi H locs ls hi_i hI hW hS hl ih_i
  replace hl : lv_has ls 3 [(0, .ref (b + o)), (1, .int (nI mm)), (2, .int (nI i))] := hl
  replace hI : gi = f_mins g o nb np i := hI
  replace hW : wd X b gi w H := hW
  have h1 : OkL o nb np gi := by rw [hI]; exact okl_mins h i
  refine lv_iload_n hx hb dX1_passMinutes_2 rfl (lv_at hl 2 rfl) ?_
  refine lv_iload_n hx hb dX1_passMinutes_3 rfl (lv_at hl 1 rfl) ?_
  refine lv_icmp_ge (tgt := 17) hx hb dX1_passMinutes_4 (by decide) (fun c_1 => ?_) (fun c_1 => ?_)
  · have hin := br_le rfl rfl (by omega) (by omega) c_1
    obtain rfl : mm = i := by omega
    exact W.vret hx hb hr (fun t9 ht9 _ => ⟨⟨gi, rfl, hI, by show wd X b _ w t9.heap; rw [ht9]; exact hW⟩, hS.F ht9⟩) hS.2.2 dX1_passMinutes_17
  · have hlt := br_nle rfl rfl (by omega) (by omega) c_1
    refine lv_aload_n hx hb dX1_passMinutes_7 rfl (lv_at hl 0 rfl) ?_
    refine k_v (c_V0 ⟨hx, hb, hml, hown, hts⟩ (metX1_passMinute l X b w gi ho h1) hK hW (ltL ho) (Ent_L ho) rfl q_235 q_236 q_237 q_2 q_238 hX1_passMinute ⟨Nat.le_of_ble_eq_true rfl, Nat.le_of_ble_eq_true rfl, rfl, rfl⟩ rfl dX1_passMinutes_8 rfl hl.1 (Nat.le_of_ble_eq_true rfl) ⟨Nat.le_of_ble_eq_true rfl, Nat.le_of_ble_eq_true rfl⟩) hS (fun g_2 H locs hp hW hS => ?_)
    refine lv_iinc (v := nI (i + 1)) (lv' := [(2, .int (nI (i + 1))), (0, .ref (b + o)), (1, .int (nI mm))]) hx hb dX1_passMinutes_11 hl (k := 2) rfl ((by rw [← nI_1]; rfl)) (by decide) rfl (fun ls hl => ?_)
    refine lv_goto (tgt := 2) hx hb dX1_passMinutes_14 (by decide) ?_
    exact ih_i hlt (g_2) _ _ _ (by show g_2 = f_min (f_mins g o nb np i) o nb np; rw [← hI, hp]) hW hS (lv_sub hl [1, 2, 0] rfl)
end
section
set_option maxHeartbeats 1000000 in
set_option maxRecDepth 100000 in
theorem metX1_copyFrom (l : Launch) (X : CX) (b : Nat) (w : Int64) (g : S2) {t o nb np : Nat} (hll : isLL t o) (h : OkL o nb np g) : Met l yX1_copyFrom (wsg yX1_copyFrom cX1_copyFrom 3 none) ({ frames := 1, cells := 0, slots := 0, locals := 21 }) (Pre X b g w [.ref (b + t), .ref (b + o)]) (Qv X b w (fun g1 : S2 => g1 = f_copy g t o nb np)) 0 0 (AA b) := by
  refine Met.ofW (cc := cX1_copyFrom) (maxL := 3) (ret := none) (by decide) rfl ?_
  intro p e s m args below meth c s₁ Bo hml hv
  obtain ⟨rfl, hW, hK⟩ := hv
  have hx := Bo.exec
  have hb := Bo.bytes
  have hr := Bo.returns
  have hts := hts_of (atoms_spec (ws := wsg yX1_copyFrom cX1_copyFrom 3 none) Bo.pre)
  have hown : s.vm.findClass RX1 = some m.cls := findClass_of_methodNamed Bo.named
  have hlocks := Bo.notSynchronized
  have hS : va_S (AA b) s.heap s.heap [] := va_S.rf
  have hl := lv_entry ([.ref (b + t), .ref (b + o)]) (n := 3) (Nat.le_of_ble_eq_true rfl)
  rw [lg_entry_eq]
  generalize (lg_sl ([.ref (b + t), .ref (b + o)]) ++ List.replicate (3 - (lg_sl ([.ref (b + t), .ref (b + o)])).length) Slot.unset).toArray = ls at hl ⊢
  have hl : lv_has ls 3 [(0, .ref (b + t)), (1, .ref (b + o))] := hl
  have ht := hll.l
  have ho := hll.r
  have hne : o ≠ t := by unfold isLL at hll; omega
  obtain ⟨⟨h3, hnb⟩, ⟨h4, hnp⟩, hnum, hbus, hpas⟩ := id h
  refine lv_iconst (v := 0) hx hb dX1_copyFrom_0 (by decide) ?_
  refine lv_istore_n (lv' := [(2, .int 0), (0, .ref (b + t)), (1, .ref (b + o))]) hx hb dX1_copyFrom_1 rfl hl (by decide) rfl (fun ls hl => ?_)
  refine w_loop (σ := S2) (10) (fun i x9 => x9 = f_cpSs g t o i) (fun i x9 => x9) (fun i x9 => [(0, .ref (b + t)), (1, .ref (b + o)), (2, .int (nI i))]) 0 (g) (Nat.zero_le _) rfl hW hS (lv_sub hl [1, 2, 0] rfl) ?_
  clear hW hS hl
  intro i gi H locs ls hi_i hI hW hS hl ih_i
  replace hl : lv_has ls 3 [(0, .ref (b + t)), (1, .ref (b + o)), (2, .int (nI i))] := hl
  replace hI : gi = f_cpSs g t o i := hI
  replace hW : wd X b gi w H := hW
  have h1 : OkL o nb np gi := by rw [hI]; exact okl_cpSs hll h (by omega)
  obtain ⟨⟨h3, -⟩, ⟨h4, -⟩, -, hbus, hpas⟩ := id h1
  refine lv_iload_n hx hb dX1_copyFrom_2 rfl (lv_at hl 2 rfl) ?_
  refine lv_bipush (v := 10) hx hb dX1_copyFrom_3 (by decide) ?_
  refine lv_icmp_ge (tgt := 29) hx hb dX1_copyFrom_5 (by decide) (fun c_1 => ?_) (fun c_1 => ?_)
  · have hin := br_le (show (10 : Int32) = nI 10 from rfl) rfl (by omega) (by omega) c_1
    obtain rfl : 10 = i := by omega
    have hS_ := hI
    clear hI
    refine lv_iconst (v := 0) hx hb dX1_copyFrom_29 (by decide) ?_
    refine lv_istore_n (lv' := [(2, .int 0), (0, .ref (b + t)), (1, .ref (b + o))]) hx hb dX1_copyFrom_30 rfl hl (by decide) rfl (fun ls hl => ?_)
    refine w_loop (σ := S2) (nb) (fun i x9 => x9 = f_cpBs gi t o i) (fun i x9 => x9) (fun i x9 => [(0, .ref (b + t)), (1, .ref (b + o)), (2, .int (nI i))]) 0 (gi) (Nat.zero_le _) rfl hW hS (lv_sub hl [1, 2, 0] rfl) ?_
    clear hW hS hl
    intro i gk H locs ls hi_i hI hW hS hl ih_i
    replace hl : lv_has ls 3 [(0, .ref (b + t)), (1, .ref (b + o)), (2, .int (nI i))] := hl
    replace hI : gk = f_cpBs gi t o i := hI
    replace hW : wd X b gk w H := hW
    have h2 : OkL o nb np gk := by rw [hI]; exact okl_cpBs hll h1 (by omega)
    obtain ⟨⟨h3, -⟩, ⟨h4, -⟩, -, hbus, hpas⟩ := id h2
    refine lv_iload_n hx hb dX1_copyFrom_31 rfl (lv_at hl 2 rfl) ?_
    refine lv_aload_n hx hb dX1_copyFrom_32 rfl (lv_at hl 1 rfl) ?_
    refine w_get hx hb hts inX1 hown hK hW (ltL ho) (Ent_L ho) rfl 3 (by decide) q_437 (fun _ h => h) rfl dX1_copyFrom_33 ?_
    refine lv_icmp_ge (tgt := 60) hx hb dX1_copyFrom_36 (by decide) (fun c_2 => ?_) (fun c_2 => ?_)
    · have hin := br_le h3 rfl (by omega) (by omega) c_2
      obtain rfl : nb = i := by omega
      have hB_ := hI
      clear hI
      refine lv_iconst (v := 0) hx hb dX1_copyFrom_60 (by decide) ?_
      refine lv_istore_n (lv' := [(2, .int 0), (0, .ref (b + t)), (1, .ref (b + o))]) hx hb dX1_copyFrom_61 rfl hl (by decide) rfl (fun ls hl => ?_)
      refine w_loop (σ := S2) (np) (fun i x9 => x9 = f_cpPs gk t o i) (fun i x9 => x9) (fun i x9 => [(0, .ref (b + t)), (1, .ref (b + o)), (2, .int (nI i))]) 0 (gk) (Nat.zero_le _) rfl hW hS (lv_sub hl [1, 2, 0] rfl) ?_
      clear hW hS hl
      intro i gm H locs ls hi_i hI hW hS hl ih_i
      replace hl : lv_has ls 3 [(0, .ref (b + t)), (1, .ref (b + o)), (2, .int (nI i))] := hl
      replace hI : gm = f_cpPs gk t o i := hI
      replace hW : wd X b gm w H := hW
      have h3_ : OkL o nb np gm := by rw [hI]; exact okl_cpPs hll h2 (by omega)
      obtain ⟨⟨h3, -⟩, ⟨h4, -⟩, -, hbus, hpas⟩ := id h3_
      refine lv_iload_n hx hb dX1_copyFrom_62 rfl (lv_at hl 2 rfl) ?_
      refine lv_aload_n hx hb dX1_copyFrom_63 rfl (lv_at hl 1 rfl) ?_
      refine w_get hx hb hts inX1 hown hK hW (ltL ho) (Ent_L ho) rfl 4 (by decide) q_439 (fun _ h => h) rfl dX1_copyFrom_64 ?_
      refine lv_icmp_ge (tgt := 91) hx hb dX1_copyFrom_67 (by decide) (fun c_3 => ?_) (fun c_3 => ?_)
      · have hin := br_le h4 rfl (by omega) (by omega) c_3
        obtain rfl : np = i := by omega
        have hP_ := hI
        clear hI
        refine lv_aload_n hx hb dX1_copyFrom_91 rfl (lv_at hl 0 rfl) ?_
        refine lv_aload_n hx hb dX1_copyFrom_92 rfl (lv_at hl 1 rfl) ?_
        refine w_get hx hb hts inX1 hown hK hW (ltL ho) (Ent_L ho) rfl 3 (by decide) q_437 (fun _ h => h) rfl dX1_copyFrom_93 ?_
        refine w_put hx hb hts inX1 tyX1 tyX1_ok nmX1 hown hK hW hS (ltL ht) (Ent_L ht) rfl 3 (by decide) q_437 (fun _ h => h) rfl rfl rfl (Nat.le_of_ble_eq_true rfl) (setL ht (by decide) (by decide)) dX1_copyFrom_96 (fun H locs hW hS => ?_)
        refine lv_aload_n hx hb dX1_copyFrom_99 rfl (lv_at hl 0 rfl) ?_
        refine lv_aload_n hx hb dX1_copyFrom_100 rfl (lv_at hl 1 rfl) ?_
        refine w_get hx hb hts inX1 hown hK hW (ltL ho) (Ent_L ho) rfl 4 (by decide) q_439 (fun _ h => h) rfl dX1_copyFrom_101 ?_
        refine w_put hx hb hts inX1 tyX1 tyX1_ok nmX1 hown hK hW hS (ltL ht) (Ent_L ht) rfl 4 (by decide) q_439 (fun _ h => h) rfl rfl rfl (Nat.le_of_ble_eq_true rfl) (setL ht (by decide) (by decide)) dX1_copyFrom_104 (fun H locs hW hS => ?_)
        refine lv_aload_n hx hb dX1_copyFrom_107 rfl (lv_at hl 0 rfl) ?_
        refine lv_aload_n hx hb dX1_copyFrom_108 rfl (lv_at hl 1 rfl) ?_
        refine w_get hx hb hts inX1 hown hK hW (ltL ho) (Ent_L ho) rfl 5 (by decide) q_441 (fun _ h => h) rfl dX1_copyFrom_109 ?_
        refine w_put hx hb hts inX1 tyX1 tyX1_ok nmX1 hown hK hW hS (ltL ht) (Ent_L ht) rfl 5 (by decide) q_441 (fun _ h => h) rfl rfl rfl (Nat.le_of_ble_eq_true rfl) (setL ht (by decide) (by decide)) dX1_copyFrom_112 (fun H locs hW hS => ?_)
        refine lv_aload_n hx hb dX1_copyFrom_115 rfl (lv_at hl 0 rfl) ?_
        refine lv_aload_n hx hb dX1_copyFrom_116 rfl (lv_at hl 1 rfl) ?_
        refine w_get hx hb hts inX1 hown hK hW (ltL ho) (Ent_L ho) rfl 6 (by decide) q_443 (fun _ h => h) rfl dX1_copyFrom_117 ?_
        refine w_put hx hb hts inX1 tyX1 tyX1_ok nmX1 hown hK hW hS (ltL ht) (Ent_L ht) rfl 6 (by decide) q_443 (fun _ h => h) rfl rfl rfl (Nat.le_of_ble_eq_true rfl) (setL ht (by decide) (by decide)) dX1_copyFrom_120 (fun H locs hW hS => ?_)
        have e9 : gm o = g o := by rw [hP_, cpPs_n (by omega) (by unfold isLL at hll; omega), hB_, cpBs_n (by omega) (by unfold isLL at hll; omega), hS_, cpSs_n (by omega) (by unfold isLL at hll; omega)]
        exact W.vret hx hb hr (fun t9 ht9 _ => ⟨⟨(u2 (u2 (u2 (u2 gm t 3 (gm o 3)) t 4 ((u2 gm t 3 (gm o 3)) o 4)) t 5 ((u2 (u2 gm t 3 (gm o 3)) t 4 ((u2 gm t 3 (gm o 3)) o 4)) o 5)) t 6 ((u2 (u2 (u2 gm t 3 (gm o 3)) t 4 ((u2 gm t 3 (gm o 3)) o 4)) t 5 ((u2 (u2 gm t 3 (gm o 3)) t 4 ((u2 gm t 3 (gm o 3)) o 4)) o 5)) o 6)), rfl, (by unfold f_copy; simp only [u2_n hne]; rw [e9, hP_, hB_, hS_]), by show wd X b _ w t9.heap; rw [ht9]; exact hW⟩, hS.F ht9⟩) hS.2.2 dX1_copyFrom_123
      · have hlt := br_nle h4 rfl (by omega) (by omega) c_3
        refine lv_aload_n hx hb dX1_copyFrom_70 rfl (lv_at hl 0 rfl) ?_
        refine w_get hx hb hts inX1 hown hK hW (ltL ht) (Ent_L ht) rfl 2 (by decide) q_435 (fun _ h => h) rfl dX1_copyFrom_71 ?_
        refine lv_iload_n hx hb dX1_copyFrom_74 rfl (lv_at hl 2 rfl) ?_
        refine w_aldP hx hb hK hW ht i rfl (by omega) dX1_copyFrom_75 ?_
        refine lv_aload_n hx hb dX1_copyFrom_76 rfl (lv_at hl 1 rfl) ?_
        refine w_get hx hb hts inX1 hown hK hW (ltL ho) (Ent_L ho) rfl 2 (by decide) q_435 (fun _ h => h) rfl dX1_copyFrom_77 ?_
        refine lv_iload_n hx hb dX1_copyFrom_80 rfl (lv_at hl 2 rfl) ?_
        refine w_aldP hx hb hK hW ho i rfl (by omega) dX1_copyFrom_81 ?_
        refine k_v (c_V0 ⟨hx, hb, hml, hown, hts⟩ (metX2_copyFrom l X b w gm (isP_of ht (by omega)) (isP_of ho (by omega)) (by unfold isLL at hll; omega) (hpas i hlt).2.2) hK hW (ltP (isP_of ht (by omega))) (Ent_P (isP_of ht (by omega))) rfl q_289 q_290 q_291 q_5 q_292 hX2_copyFrom ⟨Nat.le_of_ble_eq_true rfl, Nat.le_of_ble_eq_true rfl, rfl, rfl⟩ rfl dX1_copyFrom_82 rfl hl.1 (Nat.le_of_ble_eq_true rfl) ⟨Nat.le_of_ble_eq_true rfl, Nat.le_of_ble_eq_true rfl⟩) hS (fun g_4 H locs hp hW hS => ?_)
        refine lv_iinc (v := nI (i + 1)) (lv' := [(2, .int (nI (i + 1))), (0, .ref (b + t)), (1, .ref (b + o))]) hx hb dX1_copyFrom_85 hl (k := 2) rfl ((by rw [← nI_1]; rfl)) (by decide) rfl (fun ls hl => ?_)
        refine lv_goto (tgt := 62) hx hb dX1_copyFrom_88 (by decide) ?_
        exact ih_i hlt (g_4) _ _ _ (by show g_4 = f_cpP (f_cpPs gk t o i) _ _; rw [← hI, hp]) hW hS (lv_sub hl [1, 2, 0] rfl)
    · have hlt := br_nle h3 rfl (by omega) (by omega) c_2
      refine lv_aload_n hx hb dX1_copyFrom_39 rfl (lv_at hl 0 rfl) ?_
      refine w_get hx hb hts inX1 hown hK hW (ltL ht) (Ent_L ht) rfl 1 (by decide) q_433 (fun _ h => h) rfl dX1_copyFrom_40 ?_
      refine lv_iload_n hx hb dX1_copyFrom_43 rfl (lv_at hl 2 rfl) ?_
      refine w_aldB hx hb hK hW ht i rfl (by omega) dX1_copyFrom_44 ?_
      refine lv_aload_n hx hb dX1_copyFrom_45 rfl (lv_at hl 1 rfl) ?_
      refine w_get hx hb hts inX1 hown hK hW (ltL ho) (Ent_L ho) rfl 1 (by decide) q_433 (fun _ h => h) rfl dX1_copyFrom_46 ?_
      refine lv_iload_n hx hb dX1_copyFrom_49 rfl (lv_at hl 2 rfl) ?_
      refine w_aldB hx hb hK hW ho i rfl (by omega) dX1_copyFrom_50 ?_
      refine k_v (c_V0 ⟨hx, hb, hml, hown, hts⟩ (metX0_copyFrom l X b w gk (isB_of ht (by omega)) (isB_of ho (by omega)) (by unfold isLL at hll; omega) (hbus i hlt).2) hK hW (ltB (isB_of ht (by omega))) (Ent_B (isB_of ht (by omega))) rfl q_285 q_286 q_287 q_4 q_288 hX0_copyFrom ⟨Nat.le_of_ble_eq_true rfl, Nat.le_of_ble_eq_true rfl, rfl, rfl⟩ rfl dX1_copyFrom_51 rfl hl.1 (Nat.le_of_ble_eq_true rfl) ⟨Nat.le_of_ble_eq_true rfl, Nat.le_of_ble_eq_true rfl⟩) hS (fun g_5 H locs hp hW hS => ?_)
      refine lv_iinc (v := nI (i + 1)) (lv' := [(2, .int (nI (i + 1))), (0, .ref (b + t)), (1, .ref (b + o))]) hx hb dX1_copyFrom_54 hl (k := 2) rfl ((by rw [← nI_1]; rfl)) (by decide) rfl (fun ls hl => ?_)
      refine lv_goto (tgt := 31) hx hb dX1_copyFrom_57 (by decide) ?_
      exact ih_i hlt (g_5) _ _ _ (by show g_5 = f_cpB (f_cpBs gi t o i) _ _; rw [← hI, hp]) hW hS (lv_sub hl [1, 2, 0] rfl)
  · have hlt := br_nle (show (10 : Int32) = nI 10 from rfl) rfl (by omega) (by omega) c_1
    refine lv_aload_n hx hb dX1_copyFrom_8 rfl (lv_at hl 0 rfl) ?_
    refine w_get hx hb hts inX1 hown hK hW (ltL ht) (Ent_L ht) rfl 0 (by decide) q_432 (fun _ h => h) rfl dX1_copyFrom_9 ?_
    refine lv_iload_n hx hb dX1_copyFrom_12 rfl (lv_at hl 2 rfl) ?_
    refine w_aldS hx hb hK hW ht i rfl (by omega) dX1_copyFrom_13 ?_
    refine lv_aload_n hx hb dX1_copyFrom_14 rfl (lv_at hl 1 rfl) ?_
    refine w_get hx hb hts inX1 hown hK hW (ltL ho) (Ent_L ho) rfl 0 (by decide) q_432 (fun _ h => h) rfl dX1_copyFrom_15 ?_
    refine lv_iload_n hx hb dX1_copyFrom_18 rfl (lv_at hl 2 rfl) ?_
    refine w_aldS hx hb hK hW ho i rfl (by omega) dX1_copyFrom_19 ?_
    refine k_v (c_V0 ⟨hx, hb, hml, hown, hts⟩ (metX3_copyFrom l X b w gi (isS_of ht (by omega)) (isS_of ho (by omega)) (by unfold isLL at hll; omega)) hK hW (ltS (isS_of ht (by omega))) (Ent_S (isS_of ht (by omega))) rfl q_281 q_282 q_283 q_3 q_284 hX3_copyFrom ⟨Nat.le_of_ble_eq_true rfl, Nat.le_of_ble_eq_true rfl, rfl, rfl⟩ rfl dX1_copyFrom_20 rfl hl.1 (Nat.le_of_ble_eq_true rfl) ⟨Nat.le_of_ble_eq_true rfl, Nat.le_of_ble_eq_true rfl⟩) hS (fun g_6 H locs hp hW hS => ?_)
    refine lv_iinc (v := nI (i + 1)) (lv' := [(2, .int (nI (i + 1))), (0, .ref (b + t)), (1, .ref (b + o))]) hx hb dX1_copyFrom_23 hl (k := 2) rfl ((by rw [← nI_1]; rfl)) (by decide) rfl (fun ls hl => ?_)
    refine lv_goto (tgt := 2) hx hb dX1_copyFrom_26 (by decide) ?_
    exact ih_i hlt (g_6) _ _ _ (by show g_6 = f_cpS (f_cpSs g t o i) _ _; rw [← hI, hp]) hW hS (lv_sub hl [1, 2, 0] rfl)

set_option maxHeartbeats 1000000 in
set_option maxRecDepth 100000 in
theorem metX1_addBus (l : Launch) (X : CX) (b : Nat) (w : Int64) (g : S2) {o nb np : Nat} (ho : isL o) (h : OkL o nb np g) (hlt : nb < 6) (x y : Int32) : Met l yX1_addBus (wsg yX1_addBus cX1_addBus 4 (some .int)) ({ frames := 0, cells := 0, slots := 0, locals := 0 }) (Pre X b g w [.ref (b + o), .int x, .int y]) (Qi X b w (fun (r : Int32) (g1 : S2) => r = nI nb ∧ g1 = f_addBus g o nb x y)) 0 0 (AA b) := by
  refine Met.ofW (cc := cX1_addBus) (maxL := 4) (ret := (some .int)) (by decide) rfl ?_
  intro p e s m args below meth c s₁ Bo hml hv
  obtain ⟨rfl, hW, hK⟩ := hv
  have hx := Bo.exec
  have hb := Bo.bytes
  have hr := Bo.returns
  have hts := hts_of (atoms_spec (ws := wsg yX1_addBus cX1_addBus 4 (some .int)) Bo.pre)
  have hown : s.vm.findClass RX1 = some m.cls := findClass_of_methodNamed Bo.named
  have hlocks := Bo.notSynchronized
  have hS : va_S (AA b) s.heap s.heap [] := va_S.rf
  have hl := lv_entry ([.ref (b + o), .int x, .int y]) (n := 4) (Nat.le_of_ble_eq_true rfl)
  rw [lg_entry_eq]
  generalize (lg_sl ([.ref (b + o), .int x, .int y]) ++ List.replicate (4 - (lg_sl ([.ref (b + o), .int x, .int y])).length) Slot.unset).toArray = ls at hl ⊢
  have hl : lv_has ls 4 [(0, .ref (b + o)), (1, .int x), (2, .int y)] := hl
  obtain ⟨⟨h3, hnb⟩, ⟨h4, hnp⟩, hnum, hbus, hpas⟩ := id h
  refine lv_aload_n hx hb dX1_addBus_0 rfl (lv_at hl 0 rfl) ?_
  refine w_get hx hb hts inX1 hown hK hW (ltL ho) (Ent_L ho) rfl 1 (by decide) q_433 (fun _ h => h) rfl dX1_addBus_1 ?_
  refine lv_aload_n hx hb dX1_addBus_4 rfl (lv_at hl 0 rfl) ?_
  refine w_get hx hb hts inX1 hown hK hW (ltL ho) (Ent_L ho) rfl 3 (by decide) q_437 (fun _ h => h) rfl dX1_addBus_5 ?_
  refine w_aldB hx hb hK hW ho nb h3 (hlt) dX1_addBus_8 ?_
  refine lv_astore_n (lv' := [(3, .ref (b + (o + 14 + nb))), (0, .ref (b + o)), (1, .int x), (2, .int y)]) hx hb dX1_addBus_9 rfl hl (by decide) rfl (fun ls hl => ?_)
  refine lv_aload_n hx hb dX1_addBus_10 rfl (lv_at hl 0 rfl) ?_
  refine lv_iload_n hx hb dX1_addBus_11 rfl (lv_at hl 2 rfl) ?_
  refine w_put hx hb hts inX0 tyX0 tyX0_ok nmX0 hown hK hW hS (ltB (isB_of ho (hlt))) (Ent_B (isB_of ho (hlt))) rfl 1 (by decide) q_368 (fun _ h => h) rfl rfl rfl (Nat.le_of_ble_eq_true rfl) (setB (isB_of ho (hlt)) (by decide)) dX1_addBus_12 (fun H locs hW hS => ?_)
  refine lv_aload_n hx hb dX1_addBus_15 rfl (lv_at hl 0 rfl) ?_
  refine lv_iconst (v := 1) hx hb dX1_addBus_16 (by decide) ?_
  refine w_put hx hb hts inX0 tyX0 tyX0_ok nmX0 hown hK hW hS (ltB (isB_of ho (hlt))) (Ent_B (isB_of ho (hlt))) rfl 3 (by decide) q_372 (fun _ h => h) rfl rfl rfl (Nat.le_of_ble_eq_true rfl) (setB (isB_of ho (hlt)) (by decide)) dX1_addBus_17 (fun H locs hW hS => ?_)
  refine lv_aload_n hx hb dX1_addBus_20 rfl (lv_at hl 0 rfl) ?_
  refine lv_iload_n hx hb dX1_addBus_21 rfl (lv_at hl 3 rfl) ?_
  refine w_put hx hb hts inX0 tyX0 tyX0_ok nmX0 hown hK hW hS (ltB (isB_of ho (hlt))) (Ent_B (isB_of ho (hlt))) rfl 4 (by decide) q_374 (fun _ h => h) rfl rfl rfl (Nat.le_of_ble_eq_true rfl) (setB (isB_of ho (hlt)) (by decide)) dX1_addBus_22 (fun H locs hW hS => ?_)
  refine lv_aload_n hx hb dX1_addBus_25 rfl (lv_at hl 1 rfl) ?_
  refine lv_dup hx hb dX1_addBus_26 rfl ?_
  refine w_get hx hb hts inX1 hown hK hW (ltL ho) (Ent_L ho) rfl 3 (by decide) q_437 (fun _ h => h) rfl dX1_addBus_27 ?_
  refine lv_iconst (v := 1) hx hb dX1_addBus_30 (by decide) ?_
  refine lv_iadd hx hb dX1_addBus_31 ?_
  refine w_put hx hb hts inX1 tyX1 tyX1_ok nmX1 hown hK hW hS (ltL ho) (Ent_L ho) rfl 3 (by decide) q_437 (fun _ h => h) rfl rfl rfl (Nat.le_of_ble_eq_true rfl) (setL ho (by decide) (by decide)) dX1_addBus_32 (fun H locs hW hS => ?_)
  refine lv_aload_n hx hb dX1_addBus_35 rfl (lv_at hl 0 rfl) ?_
  refine w_get hx hb hts inX0 hown hK hW (ltB (isB_of ho (hlt))) (Ent_B (isB_of ho (hlt))) rfl 0 (by decide) q_366 (fun _ h => h) rfl dX1_addBus_36 ?_
  exact W.iret (v := (u2 (u2 (u2 (u2 g (o + 14 + nb) 1 x) (o + 14 + nb) 3 1) (o + 14 + nb) 4 y) o 3 (((u2 (u2 (u2 g (o + 14 + nb) 1 x) (o + 14 + nb) 3 1) (o + 14 + nb) 4 y) o 3) + 1)) (o + 14 + nb) 0) hx hb hr (fun t9 ht9 _ => ⟨⟨(u2 (u2 (u2 (u2 g (o + 14 + nb) 1 x) (o + 14 + nb) 3 1) (o + 14 + nb) 4 y) o 3 (((u2 (u2 (u2 g (o + 14 + nb) 1 x) (o + 14 + nb) 3 1) (o + 14 + nb) 4 y) o 3) + 1)) (o + 14 + nb) 0, (u2 (u2 (u2 (u2 g (o + 14 + nb) 1 x) (o + 14 + nb) 3 1) (o + 14 + nb) 4 y) o 3 (((u2 (u2 (u2 g (o + 14 + nb) 1 x) (o + 14 + nb) 3 1) (o + 14 + nb) 4 y) o 3) + 1)), rfl, ⟨(by rw [u2_n (show o + 14 + nb ≠ o by omega), u2_k (by decide), u2_k (by decide), u2_k (by decide)]; exact hnum nb hlt), (by unfold f_addBus; rw [u2_n (show o ≠ o + 14 + nb by omega), u2_n (show o ≠ o + 14 + nb by omega), u2_n (show o ≠ o + 14 + nb by omega), h3, nI_1])⟩, by show wd X b _ w t9.heap; rw [ht9]; exact hW⟩, hS.F ht9⟩) hS.2.2 dX1_addBus_39

set_option maxHeartbeats 1000000 in
set_option maxRecDepth 100000 in
theorem metX1_addPassenger (l : Launch) (X : CX) (b : Nat) (w : Int64) (g : S2) {o nb np : Nat} (ho : isL o) (h : OkL o nb np g) (hlt : np < 50) (x y : Int32) : Met l yX1_addPassenger (wsg yX1_addPassenger cX1_addPassenger 4 (some .int)) ({ frames := 0, cells := 0, slots := 0, locals := 0 }) (Pre X b g w [.ref (b + o), .int x, .int y]) (Qi X b w (fun (r : Int32) (g1 : S2) => r = nI np ∧ g1 = f_addPas g o np x y)) 0 0 (AA b) := by
  refine Met.ofW (cc := cX1_addPassenger) (maxL := 4) (ret := (some .int)) (by decide) rfl ?_
  intro p e s m args below meth c s₁ Bo hml hv
  obtain ⟨rfl, hW, hK⟩ := hv
  have hx := Bo.exec
  have hb := Bo.bytes
  have hr := Bo.returns
  have hts := hts_of (atoms_spec (ws := wsg yX1_addPassenger cX1_addPassenger 4 (some .int)) Bo.pre)
  have hown : s.vm.findClass RX1 = some m.cls := findClass_of_methodNamed Bo.named
  have hlocks := Bo.notSynchronized
  have hS : va_S (AA b) s.heap s.heap [] := va_S.rf
  have hl := lv_entry ([.ref (b + o), .int x, .int y]) (n := 4) (Nat.le_of_ble_eq_true rfl)
  rw [lg_entry_eq]
  generalize (lg_sl ([.ref (b + o), .int x, .int y]) ++ List.replicate (4 - (lg_sl ([.ref (b + o), .int x, .int y])).length) Slot.unset).toArray = ls at hl ⊢
  have hl : lv_has ls 4 [(0, .ref (b + o)), (1, .int x), (2, .int y)] := hl
  obtain ⟨⟨h3, hnb⟩, ⟨h4, hnp⟩, hnum, hbus, hpas⟩ := id h
  refine lv_aload_n hx hb dX1_addPassenger_0 rfl (lv_at hl 0 rfl) ?_
  refine w_get hx hb hts inX1 hown hK hW (ltL ho) (Ent_L ho) rfl 2 (by decide) q_435 (fun _ h => h) rfl dX1_addPassenger_1 ?_
  refine lv_aload_n hx hb dX1_addPassenger_4 rfl (lv_at hl 0 rfl) ?_
  refine w_get hx hb hts inX1 hown hK hW (ltL ho) (Ent_L ho) rfl 4 (by decide) q_439 (fun _ h => h) rfl dX1_addPassenger_5 ?_
  refine w_aldP hx hb hK hW ho np h4 (hlt) dX1_addPassenger_8 ?_
  refine lv_astore_n (lv' := [(3, .ref (b + (o + 20 + np))), (0, .ref (b + o)), (1, .int x), (2, .int y)]) hx hb dX1_addPassenger_9 rfl hl (by decide) rfl (fun ls hl => ?_)
  refine lv_aload_n hx hb dX1_addPassenger_10 rfl (lv_at hl 0 rfl) ?_
  refine lv_iload_n hx hb dX1_addPassenger_11 rfl (lv_at hl 2 rfl) ?_
  refine w_put hx hb hts inX2 tyX2 tyX2_ok nmX2 hown hK hW hS (ltP (isP_of ho (hlt))) (Ent_P (isP_of ho (hlt))) rfl 1 (by decide) q_403 (fun _ h => h) rfl rfl rfl (Nat.le_of_ble_eq_true rfl) (setP (isP_of ho (hlt)) (by decide)) dX1_addPassenger_12 (fun H locs hW hS => ?_)
  refine lv_aload_n hx hb dX1_addPassenger_15 rfl (lv_at hl 0 rfl) ?_
  refine lv_iload_n hx hb dX1_addPassenger_16 rfl (lv_at hl 3 rfl) ?_
  refine w_put hx hb hts inX2 tyX2 tyX2_ok nmX2 hown hK hW hS (ltP (isP_of ho (hlt))) (Ent_P (isP_of ho (hlt))) rfl 2 (by decide) q_406 (fun _ h => h) rfl rfl rfl (Nat.le_of_ble_eq_true rfl) (setP (isP_of ho (hlt)) (by decide)) dX1_addPassenger_17 (fun H locs hW hS => ?_)
  refine lv_aload_n hx hb dX1_addPassenger_20 rfl (lv_at hl 1 rfl) ?_
  refine lv_dup hx hb dX1_addPassenger_21 rfl ?_
  refine w_get hx hb hts inX1 hown hK hW (ltL ho) (Ent_L ho) rfl 4 (by decide) q_439 (fun _ h => h) rfl dX1_addPassenger_22 ?_
  refine lv_iconst (v := 1) hx hb dX1_addPassenger_25 (by decide) ?_
  refine lv_iadd hx hb dX1_addPassenger_26 ?_
  refine w_put hx hb hts inX1 tyX1 tyX1_ok nmX1 hown hK hW hS (ltL ho) (Ent_L ho) rfl 4 (by decide) q_439 (fun _ h => h) rfl rfl rfl (Nat.le_of_ble_eq_true rfl) (setL ho (by decide) (by decide)) dX1_addPassenger_27 (fun H locs hW hS => ?_)
  refine lv_aload_n hx hb dX1_addPassenger_30 rfl (lv_at hl 1 rfl) ?_
  refine w_get hx hb hts inX1 hown hK hW (ltL ho) (Ent_L ho) rfl 4 (by decide) q_439 (fun _ h => h) (v := .int (((u2 (u2 g (o + 20 + np) 1 x) (o + 20 + np) 2 y) o 4) + 1)) (congrArg (fun z => some (Value.int z)) (by simp [u2_app])) dX1_addPassenger_31 ?_
  refine lv_iconst (v := 1) hx hb dX1_addPassenger_34 (by decide) ?_
  refine lv_isub hx hb dX1_addPassenger_35 ?_
  exact W.iret (v := (((u2 (u2 g (o + 20 + np) 1 x) (o + 20 + np) 2 y) o 4) + 1) - 1) hx hb hr (fun t9 ht9 _ => ⟨⟨(((u2 (u2 g (o + 20 + np) 1 x) (o + 20 + np) 2 y) o 4) + 1) - 1, (u2 (u2 (u2 g (o + 20 + np) 1 x) (o + 20 + np) 2 y) o 4 (((u2 (u2 g (o + 20 + np) 1 x) (o + 20 + np) 2 y) o 4) + 1)), rfl, ⟨(by rw [u2_n (show o ≠ o + 20 + np by omega), u2_n (show o ≠ o + 20 + np by omega), h4, nI_1]; exact nI_pred np), (by unfold f_addPas; rw [u2_n (show o ≠ o + 20 + np by omega), u2_n (show o ≠ o + 20 + np by omega), h4, nI_1])⟩, by show wd X b _ w t9.heap; rw [ht9]; exact hW⟩, hS.F ht9⟩) hS.2.2 dX1_addPassenger_36
end
section
set_option maxHeartbeats 1000000 in
set_option maxRecDepth 100000 in
theorem metX4_isWithin (l : Launch) (X : CX) (b : Nat) (w : Int64) (g : S2) (v lo hi : Int32) : Met l yX4_isWithin (wsg yX4_isWithin cX4_isWithin 3 (some .boolean)) ({ frames := 0, cells := 0, slots := 0, locals := 0 }) (Pre X b g w [.int v, .int lo, .int hi]) (QR (f_in v lo hi)) 0 0 NO := by
  refine Met.ofW (cc := cX4_isWithin) (maxL := 3) (ret := (some .boolean)) (by decide) rfl ?_
  intro p e s m args below meth c s₁ Bo hml hv
  obtain ⟨rfl, hW, hK⟩ := hv
  have hx := Bo.exec
  have hb := Bo.bytes
  have hr := Bo.returns
  have hts := hts_of (atoms_spec (ws := wsg yX4_isWithin cX4_isWithin 3 (some .boolean)) Bo.pre)
  have hown : s.vm.findClass RX4 = some m.cls := findClass_of_methodNamed Bo.named
  have hlocks := Bo.notSynchronized
  have hl := lv_entry ([.int v, .int lo, .int hi]) (n := 3) (Nat.le_of_ble_eq_true rfl)
  rw [lg_entry_eq]
  generalize (lg_sl ([.int v, .int lo, .int hi]) ++ List.replicate (3 - (lg_sl ([.int v, .int lo, .int hi])).length) Slot.unset).toArray = ls at hl ⊢
  have hl : lv_has ls 3 [(0, .int v), (1, .int lo), (2, .int hi)] := hl
  refine lv_iload_n hx hb dX4_isWithin_0 rfl (lv_at hl 0 rfl) ?_
  refine lv_iload_n hx hb dX4_isWithin_1 rfl (lv_at hl 1 rfl) ?_
  refine lv_icmp_lt (tgt := 14) hx hb dX4_isWithin_2 (by decide) (fun c_1 => ?_) (fun c_1 => ?_)
  · refine lv_iconst (v := 0) hx hb dX4_isWithin_14 (by decide) ?_
    exact W.zret (v := 0) hx hb hr (by decide) (fun t9 ht9 _ => ⟨congrArg (fun z => Outcome.returned (some (Value.int z))) (by unfold f_in; exact (if_neg (fun z => by first | exact z.1 c_1 | exact z.2 c_2)).symm), ht9⟩) (fun q hq => absurd hq List.not_mem_nil) dX4_isWithin_15
  · refine lv_iload_n hx hb dX4_isWithin_5 rfl (lv_at hl 0 rfl) ?_
    refine lv_iload_n hx hb dX4_isWithin_6 rfl (lv_at hl 2 rfl) ?_
    refine lv_icmp_gt (tgt := 14) hx hb dX4_isWithin_7 (by decide) (fun c_2 => ?_) (fun c_2 => ?_)
    · refine lv_iconst (v := 0) hx hb dX4_isWithin_14 (by decide) ?_
      exact W.zret (v := 0) hx hb hr (by decide) (fun t9 ht9 _ => ⟨congrArg (fun z => Outcome.returned (some (Value.int z))) (by unfold f_in; exact (if_neg (fun z => by first | exact z.1 c_1 | exact z.2 c_2)).symm), ht9⟩) (fun q hq => absurd hq List.not_mem_nil) dX4_isWithin_15
    · refine lv_iconst (v := 1) hx hb dX4_isWithin_10 (by decide) ?_
      refine lv_goto (tgt := 15) hx hb dX4_isWithin_11 (by decide) ?_
      exact W.zret (v := 1) hx hb hr (by decide) (fun t9 ht9 _ => ⟨congrArg (fun z => Outcome.returned (some (Value.int z))) (by unfold f_in; rw [if_pos ⟨c_1, c_2⟩]), ht9⟩) (fun q hq => absurd hq List.not_mem_nil) dX4_isWithin_15

set_option maxHeartbeats 1000000 in
set_option maxRecDepth 100000 in
theorem metX4_isStop (l : Launch) (X : CX) (b : Nat) (w : Int64) (g : S2) (v : Int32) : Met l yX4_isStop (wsg yX4_isStop cX4_isStop 1 (some .boolean)) ({ frames := 1, cells := 0, slots := 0, locals := 22 }) (Pre X b g w [.int v]) (QR (f_in v 0 9)) 0 0 NO := by
  refine Met.ofW (cc := cX4_isStop) (maxL := 1) (ret := (some .boolean)) (by decide) rfl ?_
  intro p e s m args below meth c s₁ Bo hml hv
  obtain ⟨rfl, hW, hK⟩ := hv
  have hx := Bo.exec
  have hb := Bo.bytes
  have hr := Bo.returns
  have hts := hts_of (atoms_spec (ws := wsg yX4_isStop cX4_isStop 1 (some .boolean)) Bo.pre)
  have hown : s.vm.findClass RX4 = some m.cls := findClass_of_methodNamed Bo.named
  have hlocks := Bo.notSynchronized
  have hl := lv_entry ([.int v]) (n := 1) (Nat.le_of_ble_eq_true rfl)
  rw [lg_entry_eq]
  generalize (lg_sl ([.int v]) ++ List.replicate (1 - (lg_sl ([.int v])).length) Slot.unset).toArray = ls at hl ⊢
  have hl : lv_has ls 1 [(0, .int v)] := hl
  refine lv_iload_n hx hb dX4_isStop_0 rfl (lv_at hl 0 rfl) ?_
  refine lv_iconst (v := 0) hx hb dX4_isStop_1 (by decide) ?_
  refine lv_bipush (v := 9) hx hb dX4_isStop_2 (by decide) ?_
  refine k_R (c_S0 ⟨hx, hb, hml, hown, hts⟩ (metX4_isWithin l X b w g v 0 9) hK hW q_20 q_21 q_1 q_22 hX4_isWithin ⟨Nat.le_of_ble_eq_true rfl, Nat.le_of_ble_eq_true rfl, rfl, rfl⟩ rfl dX4_isStop_4 rfl hl.1 (Nat.le_of_ble_eq_true rfl) ⟨Nat.le_of_ble_eq_true rfl, Nat.le_of_ble_eq_true rfl⟩) ?_
  exact W.zret (v := f_in v 0 9) hx hb hr (nz01 f_in01).1 (fun t9 ht9 _ => ⟨congrArg (fun z => Outcome.returned (some (Value.int z))) rfl, ht9⟩) (fun q hq => absurd hq List.not_mem_nil) dX4_isStop_7

set_option maxHeartbeats 1000000 in
set_option maxRecDepth 100000 in
theorem metX4_isPassenger (l : Launch) (X : CX) (b : Nat) (w : Int64) (g : S2) (v : Int32) : Met l yX4_isPassenger (wsg yX4_isPassenger cX4_isPassenger 2 (some .boolean)) ({ frames := 1, cells := 0, slots := 0, locals := 22 }) (Pre X b g w [.ref (b + 0), .int v]) (QR (f_in v 0 (g 1 4 - 1))) 0 0 NO := by
  refine Met.ofW (cc := cX4_isPassenger) (maxL := 2) (ret := (some .boolean)) (by decide) rfl ?_
  intro p e s m args below meth c s₁ Bo hml hv
  obtain ⟨rfl, hW, hK⟩ := hv
  have hx := Bo.exec
  have hb := Bo.bytes
  have hr := Bo.returns
  have hts := hts_of (atoms_spec (ws := wsg yX4_isPassenger cX4_isPassenger 2 (some .boolean)) Bo.pre)
  have hown : s.vm.findClass RX4 = some m.cls := findClass_of_methodNamed Bo.named
  have hlocks := Bo.notSynchronized
  have hl := lv_entry ([.ref (b + 0), .int v]) (n := 2) (Nat.le_of_ble_eq_true rfl)
  rw [lg_entry_eq]
  generalize (lg_sl ([.ref (b + 0), .int v]) ++ List.replicate (2 - (lg_sl ([.ref (b + 0), .int v])).length) Slot.unset).toArray = ls at hl ⊢
  have hl : lv_has ls 2 [(0, .ref (b + 0)), (1, .int v)] := hl
  refine lv_iload_n hx hb dX4_isPassenger_0 rfl (lv_at hl 1 rfl) ?_
  refine lv_iconst (v := 0) hx hb dX4_isPassenger_1 (by decide) ?_
  refine lv_aload_n hx hb dX4_isPassenger_2 rfl (lv_at hl 0 rfl) ?_
  refine w_get hx hb hts inX4 hown hK hW (by decide) (Ent_0) rfl 0 (by decide) q_460 (fun _ h => h) rfl dX4_isPassenger_3 ?_
  refine w_get hx hb hts inX1 hown hK hW (ltL (Or.inl rfl)) (Ent_L (Or.inl rfl)) rfl 4 (by decide) q_440 (fun _ h => h) rfl dX4_isPassenger_6 ?_
  refine lv_iconst (v := 1) hx hb dX4_isPassenger_9 (by decide) ?_
  refine lv_isub hx hb dX4_isPassenger_10 ?_
  refine k_R (c_S0 ⟨hx, hb, hml, hown, hts⟩ (metX4_isWithin l X b w g v 0 (g 1 4 - 1)) hK hW q_20 q_21 q_1 q_22 hX4_isWithin ⟨Nat.le_of_ble_eq_true rfl, Nat.le_of_ble_eq_true rfl, rfl, rfl⟩ rfl dX4_isPassenger_11 rfl hl.1 (Nat.le_of_ble_eq_true rfl) ⟨Nat.le_of_ble_eq_true rfl, Nat.le_of_ble_eq_true rfl⟩) ?_
  exact W.zret (v := f_in v 0 (g 1 4 - 1)) hx hb hr (nz01 f_in01).1 (fun t9 ht9 _ => ⟨congrArg (fun z => Outcome.returned (some (Value.int z))) rfl, ht9⟩) (fun q hq => absurd hq List.not_mem_nil) dX4_isPassenger_14

set_option maxHeartbeats 1000000 in
set_option maxRecDepth 100000 in
theorem metX4_change (l : Launch) (hst : l.stackTraces = false) (X : CX) (b : Nat) (w : Int64) (g : S2) {nb np : Nat} (h : OkL 1 nb np g) (a1 a2 : Int32) : vx_Met l yX4_change (wsg yX4_change cX4_change 4 (some .boolean)) ({ frames := 6, cells := 1, slots := 6, locals := 96 }) (PreX X b g w [.ref (b + 0), .int a1, .int a2]) (Qi X b w (fun (r : Int32) (g1 : S2) => er_change (g 1 4) (g (1 + 20 + cl a1) 0) (g (1 + 20 + cl a1) 1) a1 a2 = 0 ∧ r = f_again g (1 + 20 + cl a1) a2 (g 1 5) (1 + 20 + cl a1) 7 ∧ g1 = f_again g (1 + 20 + cl a1) a2 (g 1 5))) (XQ X b g w (fun E => (er_change (g 1 4) (g (1 + 20 + cl a1) 0) (g (1 + 20 + cl a1) 1) a1 a2 = 1 ∧ E = xIO) ∨ (er_change (g 1 4) (g (1 + 20 + cl a1) 0) (g (1 + 20 + cl a1) 1) a1 a2 = 2 ∧ E = xIS))) 1 6 (AA b) := by
  refine vx_ofW (cc := cX4_change) (maxL := 4) (ret := (some .boolean)) (by decide) rfl ?_
  intro p e s m args below meth c s₁ Bo hml hout hv
  obtain ⟨rfl, hW, hK, hT⟩ := hv
  have hx := Bo.exec
  have hb := Bo.bytes
  have hr := Bo.returns
  have hts := hts_of (atoms_spec (ws := wsg yX4_change cX4_change 4 (some .boolean)) Bo.pre)
  have hown : s.vm.findClass RX4 = some m.cls := findClass_of_methodNamed Bo.named
  have hlocks := Bo.notSynchronized
  have hS : va_S (AA b) s.heap s.heap [] := va_S.rf
  have hl := lv_entry ([.ref (b + 0), .int a1, .int a2]) (n := 4) (Nat.le_of_ble_eq_true rfl)
  rw [lg_entry_eq]
  generalize (lg_sl ([.ref (b + 0), .int a1, .int a2]) ++ List.replicate (4 - (lg_sl ([.ref (b + 0), .int a1, .int a2])).length) Slot.unset).toArray = ls at hl ⊢
  have hl : lv_has ls 4 [(0, .ref (b + 0)), (1, .int a1), (2, .int a2)] := hl
  obtain ⟨⟨h3, hnb⟩, ⟨h4, hnp⟩, hnum, hbus, hpas⟩ := id h
  refine lv_aload_n hx hb dX4_change_0 rfl (lv_at hl 0 rfl) ?_
  refine lv_iload_n hx hb dX4_change_1 rfl (lv_at hl 1 rfl) ?_
  refine k_R (c_V0 ⟨hx, hb, hml, hown, hts⟩ (metX4_isPassenger l X b w g a1) hK hW (by decide) (Ent_0) rfl q_165 q_167 qs_1 q_1 q_169 hX4_isPassenger ⟨Nat.le_of_ble_eq_true rfl, Nat.le_of_ble_eq_true rfl, rfl, rfl⟩ rfl dX4_change_2 rfl hl.1 (Nat.le_of_ble_eq_true rfl) ⟨Nat.le_of_ble_eq_true rfl, Nat.le_of_ble_eq_true rfl⟩) ?_
  refine lv_if_eq (tgt := 15) hx hb dX4_change_5 (by decide) (fun c_1 => ?_) (fun c_1 => ?_)
  · exact w_throw (text := "there is no such passenger or stop") hx hb hst hown (by decide) upFit hts hK hT q_23 q_9 at_IO gd_IO (by decide) hW (hl.1.trans hml.symm) (Or.inl ⟨(by unfold er_change; rw [if_pos (Or.inl c_1)]), rfl⟩) dX4_change_15 dX4_change_18 dX4_change_19 dX4_change_21 dX4_change_24 hout (Nat.le_of_ble_eq_true rfl) (Nat.le_of_ble_eq_true rfl) (Nat.le_of_ble_eq_true rfl) (Nat.le_of_ble_eq_true rfl) hlocks
  · obtain ⟨hc, hcx⟩ := in_lt (v := a1) (k := np) (by rw [← h4]; exact c_1) (by omega)
    have hc50 : cl a1 < 50 := by omega
    refine lv_iload_n hx hb dX4_change_8 rfl (lv_at hl 2 rfl) ?_
    refine k_R (c_S0 ⟨hx, hb, hml, hown, hts⟩ (metX4_isStop l X b w g a2) hK hW q_17 q_18 q_1 q_19 hX4_isStop ⟨Nat.le_of_ble_eq_true rfl, Nat.le_of_ble_eq_true rfl, rfl, rfl⟩ rfl dX4_change_9 rfl hl.1 (Nat.le_of_ble_eq_true rfl) ⟨Nat.le_of_ble_eq_true rfl, Nat.le_of_ble_eq_true rfl⟩) ?_
    refine lv_if_ne (tgt := 25) hx hb dX4_change_12 (by decide) (fun c_2 => ?_) (fun c_2 => ?_)
    · refine lv_aload_n hx hb dX4_change_25 rfl (lv_at hl 0 rfl) ?_
      refine w_get hx hb hts inX4 hown hK hW (by decide) (Ent_0) rfl 0 (by decide) q_460 (fun _ h => h) rfl dX4_change_26 ?_
      refine w_get hx hb hts inX1 hown hK hW (ltL (Or.inl rfl)) (Ent_L (Or.inl rfl)) rfl 2 (by decide) q_436 (fun _ h => h) rfl dX4_change_29 ?_
      refine lv_iload_n hx hb dX4_change_32 rfl (lv_at hl 1 rfl) ?_
      refine w_aldP hx hb hK hW (Or.inl rfl) (cl a1) hcx (hc50) dX4_change_33 ?_
      refine lv_astore_n (lv' := [(3, .ref (b + (1 + 20 + cl a1))), (0, .ref (b + 0)), (1, .int a1), (2, .int a2)]) hx hb dX4_change_34 rfl hl (by decide) rfl (fun ls hl => ?_)
      refine lv_aload_n hx hb dX4_change_35 rfl (lv_at hl 0 rfl) ?_
      refine w_get hx hb hts inX2 hown hK hW (ltP (isP_of (Or.inl rfl) (hc50))) (Ent_P (isP_of (Or.inl rfl) (hc50))) rfl 0 (by decide) q_400 (fun _ h => h) rfl dX4_change_36 ?_
      refine lv_iconst (v := 2) hx hb dX4_change_39 (by decide) ?_
      refine lv_icmp_ne (tgt := 51) hx hb dX4_change_40 (by decide) (fun c_3 => ?_) (fun c_3 => ?_)
      · exact w_throw (text := "this one has not arrived, or is there already") hx hb hst hown (by decide) upFit hts hK hT q_123 q_11 at_IS gd_IS (by decide) hW (hl.1.trans hml.symm) (Or.inr ⟨(by unfold er_change; rw [if_neg (fun z => z.elim c_1 c_2), if_pos (Or.inl c_3)]), rfl⟩) dX4_change_51 dX4_change_54 dX4_change_55 dX4_change_57 dX4_change_60 hout (Nat.le_of_ble_eq_true rfl) (Nat.le_of_ble_eq_true rfl) (Nat.le_of_ble_eq_true rfl) (Nat.le_of_ble_eq_true rfl) hlocks
      · refine lv_aload_n hx hb dX4_change_43 rfl (lv_at hl 0 rfl) ?_
        refine w_get hx hb hts inX2 hown hK hW (ltP (isP_of (Or.inl rfl) (hc50))) (Ent_P (isP_of (Or.inl rfl) (hc50))) rfl 1 (by decide) q_404 (fun _ h => h) rfl dX4_change_44 ?_
        refine lv_iload_n hx hb dX4_change_47 rfl (lv_at hl 3 rfl) ?_
        refine lv_icmp_ne (tgt := 61) hx hb dX4_change_48 (by decide) (fun c_4 => ?_) (fun c_4 => ?_)
        · refine lv_aload_n hx hb dX4_change_61 rfl (lv_at hl 0 rfl) ?_
          refine lv_iload_n hx hb dX4_change_62 rfl (lv_at hl 3 rfl) ?_
          refine lv_aload_n hx hb dX4_change_63 rfl (lv_at hl 1 rfl) ?_
          refine w_get hx hb hts inX4 hown hK hW (by decide) (Ent_0) rfl 0 (by decide) q_460 (fun _ h => h) rfl dX4_change_64 ?_
          refine w_get hx hb hts inX1 hown hK hW (ltL (Or.inl rfl)) (Ent_L (Or.inl rfl)) rfl 5 (by decide) q_442 (fun _ h => h) rfl dX4_change_67 ?_
          refine k_v (c_V0 ⟨hx, hb, hml, hown, hts⟩ (metX2_waitAgain l X b w g (isP_of (Or.inl rfl) (hc50)) a2 (g 1 5)) hK hW (ltP (isP_of (Or.inl rfl) (hc50))) (Ent_P (isP_of (Or.inl rfl) (hc50))) rfl q_487 q_488 q_489 q_5 q_490 hX2_waitAgain ⟨Nat.le_of_ble_eq_true rfl, Nat.le_of_ble_eq_true rfl, rfl, rfl⟩ rfl dX4_change_70 rfl hl.1 (Nat.le_of_ble_eq_true rfl) ⟨Nat.le_of_ble_eq_true rfl, Nat.le_of_ble_eq_true rfl⟩) hS (fun g_5 H locs hp hW hS => ?_)
          refine lv_aload_n hx hb dX4_change_73 rfl (lv_at hl 0 rfl) ?_
          refine w_get hx hb hts inX2 hown hK hW (ltP (isP_of (Or.inl rfl) (hc50))) (Ent_P (isP_of (Or.inl rfl) (hc50))) rfl 7 (by decide) q_414 (fun _ h => h) rfl dX4_change_74 ?_
          exact vx_ret (W.widen (k := 1) (n := 6) (by decide) (by decide) (W.zret (v := g_5 (1 + 20 + cl a1) 7) hx hb hr (nz01 (show g_5 (1 + 20 + cl a1) 7 = 0 ∨ g_5 (1 + 20 + cl a1) 7 = 1 by rw [hp]; unfold f_again; rw [u2_k (by decide), u2_k (by decide), u2_s]; split <;> simp)).1 (fun t9 ht9 _ => ⟨⟨g_5 (1 + 20 + cl a1) 7, g_5, rfl, ⟨(by unfold er_change; rw [if_neg (fun z => z.elim c_1 c_2), if_neg (fun z => z.elim (fun z => z c_3) c_4)]), ⟨(by rw [hp]), hp⟩⟩, by show wd X b _ w t9.heap; rw [ht9]; exact hW⟩, hS.F ht9⟩) hS.2.2 dX4_change_77))
        · exact w_throw (text := "this one has not arrived, or is there already") hx hb hst hown (by decide) upFit hts hK hT q_123 q_11 at_IS gd_IS (by decide) hW (hl.1.trans hml.symm) (Or.inr ⟨(by unfold er_change; rw [if_neg (fun z => z.elim c_1 c_2), if_pos (Or.inr c_4)]), rfl⟩) dX4_change_51 dX4_change_54 dX4_change_55 dX4_change_57 dX4_change_60 hout (Nat.le_of_ble_eq_true rfl) (Nat.le_of_ble_eq_true rfl) (Nat.le_of_ble_eq_true rfl) (Nat.le_of_ble_eq_true rfl) hlocks
    · exact w_throw (text := "there is no such passenger or stop") hx hb hst hown (by decide) upFit hts hK hT q_23 q_9 at_IO gd_IO (by decide) hW (hl.1.trans hml.symm) (Or.inl ⟨(by unfold er_change; rw [if_pos (Or.inr c_2)]), rfl⟩) dX4_change_15 dX4_change_18 dX4_change_19 dX4_change_21 dX4_change_24 hout (Nat.le_of_ble_eq_true rfl) (Nat.le_of_ble_eq_true rfl) (Nat.le_of_ble_eq_true rfl) (Nat.le_of_ble_eq_true rfl) hlocks

theorem f_inN {j M : Nat} (h : j ≤ M) (hM : M < 2000) : ¬ f_in (nI j) 0 (nI M) = 0 := f_in1.mpr ⟨fun q => absurd ((nI_ltI (by omega) (by decide)).mp (show nI j < nI 0 from q)) (by omega), fun q => absurd ((nI_ltI (by omega) (by omega)).mp q) (by omega)⟩
theorem f_in1N {j M : Nat} (h1 : 1 ≤ j) (h : j ≤ M) (hM : M < 2000) : ¬ f_in (nI j) 1 (nI M) = 0 := f_in1.mpr ⟨fun q => absurd ((nI_ltI (by omega) (by decide)).mp (show nI j < nI 1 from q)) (by omega), fun q => absurd ((nI_ltI (by omega) (by omega)).mp q) (by omega)⟩
theorem f_inC {j n : Nat} {x : Int32} (hx : x = nI n) (h : j < n) (hM : n < 2000) : ¬ f_in (nI j) 0 (x - 1) = 0 := by
  subst hx
  obtain ⟨k, rfl⟩ : ∃ k, n = k + 1 := ⟨n - 1, by omega⟩
  rw [nI_pred]
  exact f_inN (by omega) (by omega)
theorem nI_ne' {a c : Nat} (h : a ≠ c) (ha : a < 2000) (hc : c < 2000) : ¬ nI a = nI c := fun q => h ((nI_eq (by omega) (by omega)).mp q)
theorem clN {a n : Nat} (h : a < n) (hn : n ≤ 2048) : cl (nI a) = a := cl_nI rfl h hn

set_option maxHeartbeats 1000000 in
set_option maxRecDepth 100000 in
theorem mnX4_set (l : Launch) (X : CX) (b : Nat) (w : Int64) (g : S2) {nb np : Nat} (h : OkL 1 nb np g) {i mi t : Nat} (hi : i < 10) (hm1 : 1 ≤ mi) (hm : mi ≤ 9) (ht : t ≤ 9) : Met l yX4_set (wsg yX4_set cX4_set 6 (some .int)) ({ frames := 6, cells := 0, slots := 0, locals := 96 }) (Pre X b g w [.ref (b + 0), .int (nI i), .int (nI mi), .int (nI t)]) (Qi X b w (fun (r : Int32) (g1 : S2) => r = 10 * g (1 + 4 + i) 0 + g (1 + 4 + i) 1 ∧ g1 = u2 (u2 g (1 + 4 + i) 0 (nI mi)) (1 + 4 + i) 1 (nI t))) 0 0 (AA b) := by
  refine Met.ofW (cc := cX4_set) (maxL := 6) (ret := (some .int)) (by decide) rfl ?_
  intro p e s m args below meth c s₁ Bo hml hv
  obtain ⟨rfl, hW, hK⟩ := hv
  have hx := Bo.exec
  have hb := Bo.bytes
  have hr := Bo.returns
  have hts := hts_of (atoms_spec (ws := wsg yX4_set cX4_set 6 (some .int)) Bo.pre)
  have hown : s.vm.findClass RX4 = some m.cls := findClass_of_methodNamed Bo.named
  have hlocks := Bo.notSynchronized
  have hS : va_S (AA b) s.heap s.heap [] := va_S.rf
  have hl := lv_entry ([.ref (b + 0), .int (nI i), .int (nI mi), .int (nI t)]) (n := 6) (Nat.le_of_ble_eq_true rfl)
  rw [lg_entry_eq]
  generalize (lg_sl ([.ref (b + 0), .int (nI i), .int (nI mi), .int (nI t)]) ++ List.replicate (6 - (lg_sl ([.ref (b + 0), .int (nI i), .int (nI mi), .int (nI t)])).length) Slot.unset).toArray = ls at hl ⊢
  have hl : lv_has ls 6 [(0, .ref (b + 0)), (1, .int (nI i)), (2, .int (nI mi)), (3, .int (nI t))] := hl
  obtain ⟨⟨h3, hnb⟩, ⟨h4, hnp⟩, hnum, hbus, hpas⟩ := id h
  refine lv_iload_n hx hb dX4_set_0 rfl (lv_at hl 1 rfl) ?_
  refine k_R (c_S0 ⟨hx, hb, hml, hown, hts⟩ (metX4_isStop l X b w g (nI i)) hK hW q_17 q_18 q_1 q_19 hX4_isStop ⟨Nat.le_of_ble_eq_true rfl, Nat.le_of_ble_eq_true rfl, rfl, rfl⟩ rfl dX4_set_1 rfl hl.1 (Nat.le_of_ble_eq_true rfl) ⟨Nat.le_of_ble_eq_true rfl, Nat.le_of_ble_eq_true rfl⟩) ?_
  refine lv_if_ne (tgt := 17) hx hb dX4_set_4 (by decide) (fun c_1 => ?_) (fun c_1 => False.elim ((f_inN (M := 9) (Nat.le_of_lt_succ hi) (by decide)) c_1))
  refine lv_iload_n hx hb dX4_set_17 rfl (lv_at hl 2 rfl) ?_
  refine lv_iconst (v := 1) hx hb dX4_set_18 (by decide) ?_
  refine lv_bipush (v := 9) hx hb dX4_set_19 (by decide) ?_
  refine k_R (c_S0 ⟨hx, hb, hml, hown, hts⟩ (metX4_isWithin l X b w g (nI mi) 1 9) hK hW q_20 q_21 q_1 q_22 hX4_isWithin ⟨Nat.le_of_ble_eq_true rfl, Nat.le_of_ble_eq_true rfl, rfl, rfl⟩ rfl dX4_set_21 rfl hl.1 (Nat.le_of_ble_eq_true rfl) ⟨Nat.le_of_ble_eq_true rfl, Nat.le_of_ble_eq_true rfl⟩) ?_
  refine lv_if_eq (tgt := 37) hx hb dX4_set_24 (by decide) (fun c_2 => absurd c_2 (f_in1N (M := 9) hm1 hm (by decide))) (fun c_2 => ?_)
  refine lv_iload_n hx hb dX4_set_27 rfl (lv_at hl 3 rfl) ?_
  refine lv_iconst (v := 0) hx hb dX4_set_28 (by decide) ?_
  refine lv_bipush (v := 9) hx hb dX4_set_29 (by decide) ?_
  refine k_R (c_S0 ⟨hx, hb, hml, hown, hts⟩ (metX4_isWithin l X b w g (nI t) 0 9) hK hW q_20 q_21 q_1 q_22 hX4_isWithin ⟨Nat.le_of_ble_eq_true rfl, Nat.le_of_ble_eq_true rfl, rfl, rfl⟩ rfl dX4_set_31 rfl hl.1 (Nat.le_of_ble_eq_true rfl) ⟨Nat.le_of_ble_eq_true rfl, Nat.le_of_ble_eq_true rfl⟩) ?_
  refine lv_if_ne (tgt := 47) hx hb dX4_set_34 (by decide) (fun c_3 => ?_) (fun c_3 => False.elim ((f_inN (M := 9) ht (by decide)) c_3))
  refine lv_aload_n hx hb dX4_set_47 rfl (lv_at hl 0 rfl) ?_
  refine w_get hx hb hts inX4 hown hK hW (by decide) (Ent_0) rfl 0 (by decide) q_460 (fun _ h => h) rfl dX4_set_48 ?_
  refine lv_iload_n hx hb dX4_set_51 rfl (lv_at hl 1 rfl) ?_
  refine k_Rr (c_V0 ⟨hx, hb, hml, hown, hts⟩ (metX1_stopAt10 l X b w g (Or.inl rfl) rfl hi) hK hW (ltL (Or.inl rfl)) (Ent_L (Or.inl rfl)) rfl q_109 q_110 q_111 q_2 q_112 hX1_stopAt ⟨Nat.le_of_ble_eq_true rfl, Nat.le_of_ble_eq_true rfl, rfl, rfl⟩ rfl dX4_set_52 rfl hl.1 (Nat.le_of_ble_eq_true rfl) ⟨Nat.le_of_ble_eq_true rfl, Nat.le_of_ble_eq_true rfl⟩) ?_
  refine lv_astore (lv' := [(4, .ref (b + (1 + 4 + i))), (0, .ref (b + 0)), (1, .int (nI i)), (2, .int (nI mi)), (3, .int (nI t))]) hx hb dX4_set_55 hl (by decide) rfl (fun ls hl => ?_)
  refine lv_bipush (v := 10) hx hb dX4_set_57 (by decide) ?_
  refine lv_aload hx hb dX4_set_59 (lv_at hl 0 rfl) ?_
  refine w_get hx hb hts inX3 hown hK hW (ltS (isS_of (Or.inl rfl) hi)) (Ent_S (isS_of (Or.inl rfl) hi)) rfl 0 (by decide) q_345 (fun _ h => h) rfl dX4_set_61 ?_
  refine lv_imul hx hb dX4_set_64 ?_
  refine lv_aload hx hb dX4_set_65 (lv_at hl 0 rfl) ?_
  refine w_get hx hb hts inX3 hown hK hW (ltS (isS_of (Or.inl rfl) hi)) (Ent_S (isS_of (Or.inl rfl) hi)) rfl 1 (by decide) q_348 (fun _ h => h) rfl dX4_set_67 ?_
  refine lv_iadd hx hb dX4_set_70 ?_
  refine lv_istore (lv' := [(5, .int ((10 * (g (1 + 4 + i) 0)) + (g (1 + 4 + i) 1))), (4, .ref (b + (1 + 4 + i))), (0, .ref (b + 0)), (1, .int (nI i)), (2, .int (nI mi)), (3, .int (nI t))]) hx hb dX4_set_71 hl (by decide) rfl (fun ls hl => ?_)
  refine lv_aload hx hb dX4_set_73 (lv_at hl 1 rfl) ?_
  refine lv_iload_n hx hb dX4_set_75 rfl (lv_at hl 4 rfl) ?_
  refine w_put hx hb hts inX3 tyX3 tyX3_ok nmX3 hown hK hW hS (ltS (isS_of (Or.inl rfl) hi)) (Ent_S (isS_of (Or.inl rfl) hi)) rfl 0 (by decide) q_345 (fun _ h => h) rfl rfl rfl (Nat.le_of_ble_eq_true rfl) (setS (isS_of (Or.inl rfl) hi) (by decide)) dX4_set_76 (fun H locs hW hS => ?_)
  refine lv_aload hx hb dX4_set_79 (lv_at hl 1 rfl) ?_
  refine lv_iload_n hx hb dX4_set_81 rfl (lv_at hl 5 rfl) ?_
  refine w_put hx hb hts inX3 tyX3 tyX3_ok nmX3 hown hK hW hS (ltS (isS_of (Or.inl rfl) hi)) (Ent_S (isS_of (Or.inl rfl) hi)) rfl 1 (by decide) q_348 (fun _ h => h) rfl rfl rfl (Nat.le_of_ble_eq_true rfl) (setS (isS_of (Or.inl rfl) hi) (by decide)) dX4_set_82 (fun H locs hW hS => ?_)
  refine lv_iload hx hb dX4_set_85 (lv_at hl 0 rfl) ?_
  exact W.iret (v := (10 * (g (1 + 4 + i) 0)) + (g (1 + 4 + i) 1)) hx hb hr (fun t9 ht9 _ => ⟨⟨(10 * (g (1 + 4 + i) 0)) + (g (1 + 4 + i) 1), (u2 (u2 g (1 + 4 + i) 0 (nI mi)) (1 + 4 + i) 1 (nI t)), rfl, ⟨rfl, rfl⟩, by show wd X b _ w t9.heap; rw [ht9]; exact hW⟩, hS.F ht9⟩) hS.2.2 dX4_set_87

set_option maxHeartbeats 1000000 in
set_option maxRecDepth 100000 in
theorem mnX4_hold (l : Launch) (X : CX) (b : Nat) (w : Int64) (g : S2) {nb np : Nat} (h : OkL 1 nb np g) {k : Nat} (hk : k ≤ 15) : Met l yX4_hold (wsg yX4_hold cX4_hold 3 (some .int)) ({ frames := 6, cells := 0, slots := 0, locals := 96 }) (Pre X b g w [.ref (b + 0), .int (nI k)]) (Qi X b w (fun (r : Int32) (g1 : S2) => r = g 1 6 ∧ g1 = u2 g 1 6 (nI k))) 0 0 (AA b) := by
  refine Met.ofW (cc := cX4_hold) (maxL := 3) (ret := (some .int)) (by decide) rfl ?_
  intro p e s m args below meth c s₁ Bo hml hv
  obtain ⟨rfl, hW, hK⟩ := hv
  have hx := Bo.exec
  have hb := Bo.bytes
  have hr := Bo.returns
  have hts := hts_of (atoms_spec (ws := wsg yX4_hold cX4_hold 3 (some .int)) Bo.pre)
  have hown : s.vm.findClass RX4 = some m.cls := findClass_of_methodNamed Bo.named
  have hlocks := Bo.notSynchronized
  have hS : va_S (AA b) s.heap s.heap [] := va_S.rf
  have hl := lv_entry ([.ref (b + 0), .int (nI k)]) (n := 3) (Nat.le_of_ble_eq_true rfl)
  rw [lg_entry_eq]
  generalize (lg_sl ([.ref (b + 0), .int (nI k)]) ++ List.replicate (3 - (lg_sl ([.ref (b + 0), .int (nI k)])).length) Slot.unset).toArray = ls at hl ⊢
  have hl : lv_has ls 3 [(0, .ref (b + 0)), (1, .int (nI k))] := hl
  obtain ⟨⟨h3, hnb⟩, ⟨h4, hnp⟩, hnum, hbus, hpas⟩ := id h
  refine lv_iload_n hx hb dX4_hold_0 rfl (lv_at hl 1 rfl) ?_
  refine lv_iconst (v := 0) hx hb dX4_hold_1 (by decide) ?_
  refine lv_bipush (v := 15) hx hb dX4_hold_2 (by decide) ?_
  refine k_R (c_S0 ⟨hx, hb, hml, hown, hts⟩ (metX4_isWithin l X b w g (nI k) 0 15) hK hW q_20 q_21 q_1 q_22 hX4_isWithin ⟨Nat.le_of_ble_eq_true rfl, Nat.le_of_ble_eq_true rfl, rfl, rfl⟩ rfl dX4_hold_4 rfl hl.1 (Nat.le_of_ble_eq_true rfl) ⟨Nat.le_of_ble_eq_true rfl, Nat.le_of_ble_eq_true rfl⟩) ?_
  refine lv_if_ne (tgt := 20) hx hb dX4_hold_7 (by decide) (fun c_1 => ?_) (fun c_1 => False.elim ((f_inN (M := 15) hk (by decide)) c_1))
  refine lv_aload_n hx hb dX4_hold_20 rfl (lv_at hl 0 rfl) ?_
  refine w_get hx hb hts inX4 hown hK hW (by decide) (Ent_0) rfl 0 (by decide) q_460 (fun _ h => h) rfl dX4_hold_21 ?_
  refine w_get hx hb hts inX1 hown hK hW (ltL (Or.inl rfl)) (Ent_L (Or.inl rfl)) rfl 6 (by decide) q_444 (fun _ h => h) rfl dX4_hold_24 ?_
  refine lv_istore_n (lv' := [(2, .int (g 1 6)), (0, .ref (b + 0)), (1, .int (nI k))]) hx hb dX4_hold_27 rfl hl (by decide) rfl (fun ls hl => ?_)
  refine lv_aload_n hx hb dX4_hold_28 rfl (lv_at hl 1 rfl) ?_
  refine w_get hx hb hts inX4 hown hK hW (by decide) (Ent_0) rfl 0 (by decide) q_460 (fun _ h => h) rfl dX4_hold_29 ?_
  refine lv_iload_n hx hb dX4_hold_32 rfl (lv_at hl 2 rfl) ?_
  refine w_put hx hb hts inX1 tyX1 tyX1_ok nmX1 hown hK hW hS (ltL (Or.inl rfl)) (Ent_L (Or.inl rfl)) rfl 6 (by decide) q_444 (fun _ h => h) rfl rfl rfl (Nat.le_of_ble_eq_true rfl) (setL (Or.inl rfl) (by decide) (by decide)) dX4_hold_33 (fun H locs hW hS => ?_)
  refine lv_iload_n hx hb dX4_hold_36 rfl (lv_at hl 0 rfl) ?_
  exact W.iret (v := g 1 6) hx hb hr (fun t9 ht9 _ => ⟨⟨g 1 6, (u2 g 1 6 (nI k)), rfl, ⟨rfl, rfl⟩, by show wd X b _ w t9.heap; rw [ht9]; exact hW⟩, hS.F ht9⟩) hS.2.2 dX4_hold_37

set_option maxHeartbeats 1000000 in
set_option maxRecDepth 100000 in
theorem mnX4_start (l : Launch) (X : CX) (b : Nat) (w : Int64) (g : S2) {nb np : Nat} (h : OkL 1 nb np g) {i k : Nat} (hi : i < 10) (hk1 : 1 ≤ k) (hk : k ≤ 20) (hlt : nb < 6) : Met l yX4_start (wsg yX4_start cX4_start 3 (some .int)) ({ frames := 6, cells := 0, slots := 0, locals := 96 }) (Pre X b g w [.ref (b + 0), .int (nI i), .int (nI k)]) (Qi X b w (fun (r : Int32) (g1 : S2) => r = nI nb ∧ g1 = f_addBus g 1 nb (nI i) (nI k))) 0 0 (AA b) := by
  refine Met.ofW (cc := cX4_start) (maxL := 3) (ret := (some .int)) (by decide) rfl ?_
  intro p e s m args below meth c s₁ Bo hml hv
  obtain ⟨rfl, hW, hK⟩ := hv
  have hx := Bo.exec
  have hb := Bo.bytes
  have hr := Bo.returns
  have hts := hts_of (atoms_spec (ws := wsg yX4_start cX4_start 3 (some .int)) Bo.pre)
  have hown : s.vm.findClass RX4 = some m.cls := findClass_of_methodNamed Bo.named
  have hlocks := Bo.notSynchronized
  have hS : va_S (AA b) s.heap s.heap [] := va_S.rf
  have hl := lv_entry ([.ref (b + 0), .int (nI i), .int (nI k)]) (n := 3) (Nat.le_of_ble_eq_true rfl)
  rw [lg_entry_eq]
  generalize (lg_sl ([.ref (b + 0), .int (nI i), .int (nI k)]) ++ List.replicate (3 - (lg_sl ([.ref (b + 0), .int (nI i), .int (nI k)])).length) Slot.unset).toArray = ls at hl ⊢
  have hl : lv_has ls 3 [(0, .ref (b + 0)), (1, .int (nI i)), (2, .int (nI k))] := hl
  obtain ⟨⟨h3, hnb⟩, ⟨h4, hnp⟩, hnum, hbus, hpas⟩ := id h
  refine lv_iload_n hx hb dX4_start_0 rfl (lv_at hl 1 rfl) ?_
  refine k_R (c_S0 ⟨hx, hb, hml, hown, hts⟩ (metX4_isStop l X b w g (nI i)) hK hW q_17 q_18 q_1 q_19 hX4_isStop ⟨Nat.le_of_ble_eq_true rfl, Nat.le_of_ble_eq_true rfl, rfl, rfl⟩ rfl dX4_start_1 rfl hl.1 (Nat.le_of_ble_eq_true rfl) ⟨Nat.le_of_ble_eq_true rfl, Nat.le_of_ble_eq_true rfl⟩) ?_
  refine lv_if_ne (tgt := 17) hx hb dX4_start_4 (by decide) (fun c_1 => ?_) (fun c_1 => False.elim ((f_inN (M := 9) (Nat.le_of_lt_succ hi) (by decide)) c_1))
  refine lv_iload_n hx hb dX4_start_17 rfl (lv_at hl 2 rfl) ?_
  refine lv_iconst (v := 1) hx hb dX4_start_18 (by decide) ?_
  refine lv_bipush (v := 20) hx hb dX4_start_19 (by decide) ?_
  refine k_R (c_S0 ⟨hx, hb, hml, hown, hts⟩ (metX4_isWithin l X b w g (nI k) 1 20) hK hW q_20 q_21 q_1 q_22 hX4_isWithin ⟨Nat.le_of_ble_eq_true rfl, Nat.le_of_ble_eq_true rfl, rfl, rfl⟩ rfl dX4_start_21 rfl hl.1 (Nat.le_of_ble_eq_true rfl) ⟨Nat.le_of_ble_eq_true rfl, Nat.le_of_ble_eq_true rfl⟩) ?_
  refine lv_if_ne (tgt := 37) hx hb dX4_start_24 (by decide) (fun c_2 => ?_) (fun c_2 => False.elim ((f_in1N (M := 20) hk1 hk (by decide)) c_2))
  refine lv_aload_n hx hb dX4_start_37 rfl (lv_at hl 0 rfl) ?_
  refine w_get hx hb hts inX4 hown hK hW (by decide) (Ent_0) rfl 0 (by decide) q_460 (fun _ h => h) rfl dX4_start_38 ?_
  refine w_get hx hb hts inX1 hown hK hW (ltL (Or.inl rfl)) (Ent_L (Or.inl rfl)) rfl 3 (by decide) q_438 (fun _ h => h) rfl dX4_start_41 ?_
  refine lv_bipush (v := 6) hx hb dX4_start_44 (by decide) ?_
  refine lv_icmp_lt (tgt := 59) hx hb dX4_start_46 (by decide) (fun c_3 => ?_) (fun c_3 => False.elim ((fun q => q (by rw [h3]; exact nI_lt hlt (by decide))) c_3))
  refine lv_aload_n hx hb dX4_start_59 rfl (lv_at hl 0 rfl) ?_
  refine w_get hx hb hts inX4 hown hK hW (by decide) (Ent_0) rfl 0 (by decide) q_460 (fun _ h => h) rfl dX4_start_60 ?_
  refine lv_iload_n hx hb dX4_start_63 rfl (lv_at hl 1 rfl) ?_
  refine lv_iload_n hx hb dX4_start_64 rfl (lv_at hl 2 rfl) ?_
  refine k_i (c_V0 ⟨hx, hb, hml, hown, hts⟩ (metX1_addBus l X b w g (Or.inl rfl) h hlt (nI i) (nI k)) hK hW (ltL (Or.inl rfl)) (Ent_L (Or.inl rfl)) rfl q_473 q_474 q_475 q_2 q_476 hX1_addBus ⟨Nat.le_of_ble_eq_true rfl, Nat.le_of_ble_eq_true rfl, rfl, rfl⟩ rfl dX4_start_65 rfl hl.1 (Nat.le_of_ble_eq_true rfl) ⟨Nat.le_of_ble_eq_true rfl, Nat.le_of_ble_eq_true rfl⟩) hS (fun r_4 g_5 H locs hp hW hS => ?_)
  exact W.iret (v := r_4) hx hb hr (fun t9 ht9 _ => ⟨⟨r_4, g_5, rfl, hp, by show wd X b _ w t9.heap; rw [ht9]; exact hW⟩, hS.F ht9⟩) hS.2.2 dX4_start_68

set_option maxHeartbeats 1000000 in
set_option maxRecDepth 100000 in
theorem mnX4_queue (l : Launch) (X : CX) (b : Nat) (w : Int64) (g : S2) {nb np : Nat} (h : OkL 1 nb np g) {i k : Nat} (hi : i < 10) (hk : k < 10) (hik : i ≠ k) (hlt : np < 50) : Met l yX4_queue (wsg yX4_queue cX4_queue 3 (some .int)) ({ frames := 6, cells := 0, slots := 0, locals := 96 }) (Pre X b g w [.ref (b + 0), .int (nI i), .int (nI k)]) (Qi X b w (fun (r : Int32) (g1 : S2) => r = nI np ∧ g1 = f_addPas g 1 np (nI i) (nI k))) 0 0 (AA b) := by
  refine Met.ofW (cc := cX4_queue) (maxL := 3) (ret := (some .int)) (by decide) rfl ?_
  intro p e s m args below meth c s₁ Bo hml hv
  obtain ⟨rfl, hW, hK⟩ := hv
  have hx := Bo.exec
  have hb := Bo.bytes
  have hr := Bo.returns
  have hts := hts_of (atoms_spec (ws := wsg yX4_queue cX4_queue 3 (some .int)) Bo.pre)
  have hown : s.vm.findClass RX4 = some m.cls := findClass_of_methodNamed Bo.named
  have hlocks := Bo.notSynchronized
  have hS : va_S (AA b) s.heap s.heap [] := va_S.rf
  have hl := lv_entry ([.ref (b + 0), .int (nI i), .int (nI k)]) (n := 3) (Nat.le_of_ble_eq_true rfl)
  rw [lg_entry_eq]
  generalize (lg_sl ([.ref (b + 0), .int (nI i), .int (nI k)]) ++ List.replicate (3 - (lg_sl ([.ref (b + 0), .int (nI i), .int (nI k)])).length) Slot.unset).toArray = ls at hl ⊢
  have hl : lv_has ls 3 [(0, .ref (b + 0)), (1, .int (nI i)), (2, .int (nI k))] := hl
  obtain ⟨⟨h3, hnb⟩, ⟨h4, hnp⟩, hnum, hbus, hpas⟩ := id h
  refine lv_iload_n hx hb dX4_queue_0 rfl (lv_at hl 1 rfl) ?_
  refine k_R (c_S0 ⟨hx, hb, hml, hown, hts⟩ (metX4_isStop l X b w g (nI i)) hK hW q_17 q_18 q_1 q_19 hX4_isStop ⟨Nat.le_of_ble_eq_true rfl, Nat.le_of_ble_eq_true rfl, rfl, rfl⟩ rfl dX4_queue_1 rfl hl.1 (Nat.le_of_ble_eq_true rfl) ⟨Nat.le_of_ble_eq_true rfl, Nat.le_of_ble_eq_true rfl⟩) ?_
  refine lv_if_eq (tgt := 14) hx hb dX4_queue_4 (by decide) (fun c_1 => absurd c_1 (f_inN (M := 9) (Nat.le_of_lt_succ hi) (by decide))) (fun c_1 => ?_)
  refine lv_iload_n hx hb dX4_queue_7 rfl (lv_at hl 2 rfl) ?_
  refine k_R (c_S0 ⟨hx, hb, hml, hown, hts⟩ (metX4_isStop l X b w g (nI k)) hK hW q_17 q_18 q_1 q_19 hX4_isStop ⟨Nat.le_of_ble_eq_true rfl, Nat.le_of_ble_eq_true rfl, rfl, rfl⟩ rfl dX4_queue_8 rfl hl.1 (Nat.le_of_ble_eq_true rfl) ⟨Nat.le_of_ble_eq_true rfl, Nat.le_of_ble_eq_true rfl⟩) ?_
  refine lv_if_ne (tgt := 24) hx hb dX4_queue_11 (by decide) (fun c_2 => ?_) (fun c_2 => False.elim ((f_inN (M := 9) (Nat.le_of_lt_succ hk) (by decide)) c_2))
  refine lv_iload_n hx hb dX4_queue_24 rfl (lv_at hl 1 rfl) ?_
  refine lv_iload_n hx hb dX4_queue_25 rfl (lv_at hl 2 rfl) ?_
  refine lv_icmp_ne (tgt := 39) hx hb dX4_queue_26 (by decide) (fun c_3 => ?_) (fun c_3 => False.elim ((nI_ne' hik (by omega) (by omega)) c_3))
  refine lv_aload_n hx hb dX4_queue_39 rfl (lv_at hl 0 rfl) ?_
  refine w_get hx hb hts inX4 hown hK hW (by decide) (Ent_0) rfl 0 (by decide) q_460 (fun _ h => h) rfl dX4_queue_40 ?_
  refine w_get hx hb hts inX1 hown hK hW (ltL (Or.inl rfl)) (Ent_L (Or.inl rfl)) rfl 4 (by decide) q_440 (fun _ h => h) rfl dX4_queue_43 ?_
  refine lv_bipush (v := 50) hx hb dX4_queue_46 (by decide) ?_
  refine lv_icmp_lt (tgt := 61) hx hb dX4_queue_48 (by decide) (fun c_4 => ?_) (fun c_4 => False.elim ((fun q => q (by rw [h4]; exact nI_lt hlt (by decide))) c_4))
  refine lv_aload_n hx hb dX4_queue_61 rfl (lv_at hl 0 rfl) ?_
  refine w_get hx hb hts inX4 hown hK hW (by decide) (Ent_0) rfl 0 (by decide) q_460 (fun _ h => h) rfl dX4_queue_62 ?_
  refine lv_iload_n hx hb dX4_queue_65 rfl (lv_at hl 1 rfl) ?_
  refine lv_iload_n hx hb dX4_queue_66 rfl (lv_at hl 2 rfl) ?_
  refine k_i (c_V0 ⟨hx, hb, hml, hown, hts⟩ (metX1_addPassenger l X b w g (Or.inl rfl) h hlt (nI i) (nI k)) hK hW (ltL (Or.inl rfl)) (Ent_L (Or.inl rfl)) rfl q_139 q_140 q_141 q_2 q_142 hX1_addPassenger ⟨Nat.le_of_ble_eq_true rfl, Nat.le_of_ble_eq_true rfl, rfl, rfl⟩ rfl dX4_queue_67 rfl hl.1 (Nat.le_of_ble_eq_true rfl) ⟨Nat.le_of_ble_eq_true rfl, Nat.le_of_ble_eq_true rfl⟩) hS (fun r_5 g_6 H locs hp hW hS => ?_)
  exact W.iret (v := r_5) hx hb hr (fun t9 ht9 _ => ⟨⟨r_5, g_6, rfl, hp, by show wd X b _ w t9.heap; rw [ht9]; exact hW⟩, hS.F ht9⟩) hS.2.2 dX4_queue_70

set_option maxHeartbeats 1000000 in
set_option maxRecDepth 100000 in
theorem mnX4_fare (l : Launch) (X : CX) (b : Nat) (w : Int64) (g : S2) {nb np : Nat} (h : OkL 1 nb np g) {i k : Nat} (hi : i < 10) (hk : k < 10) : Met l yX4_fare (wsg yX4_fare cX4_fare 3 (some .int)) ({ frames := 6, cells := 0, slots := 0, locals := 96 }) (Pre X b g w [.ref (b + 0), .int (nI i), .int (nI k)]) (QR (f_fareI (stg g 1) (nI i) (nI k))) 0 0 NO := by
  refine Met.ofW (cc := cX4_fare) (maxL := 3) (ret := (some .int)) (by decide) rfl ?_
  intro p e s m args below meth c s₁ Bo hml hv
  obtain ⟨rfl, hW, hK⟩ := hv
  have hx := Bo.exec
  have hb := Bo.bytes
  have hr := Bo.returns
  have hts := hts_of (atoms_spec (ws := wsg yX4_fare cX4_fare 3 (some .int)) Bo.pre)
  have hown : s.vm.findClass RX4 = some m.cls := findClass_of_methodNamed Bo.named
  have hlocks := Bo.notSynchronized
  have hl := lv_entry ([.ref (b + 0), .int (nI i), .int (nI k)]) (n := 3) (Nat.le_of_ble_eq_true rfl)
  rw [lg_entry_eq]
  generalize (lg_sl ([.ref (b + 0), .int (nI i), .int (nI k)]) ++ List.replicate (3 - (lg_sl ([.ref (b + 0), .int (nI i), .int (nI k)])).length) Slot.unset).toArray = ls at hl ⊢
  have hl : lv_has ls 3 [(0, .ref (b + 0)), (1, .int (nI i)), (2, .int (nI k))] := hl
  obtain ⟨⟨h3, hnb⟩, ⟨h4, hnp⟩, hnum, hbus, hpas⟩ := id h
  refine lv_iload_n hx hb dX4_fare_0 rfl (lv_at hl 1 rfl) ?_
  refine k_R (c_S0 ⟨hx, hb, hml, hown, hts⟩ (metX4_isStop l X b w g (nI i)) hK hW q_17 q_18 q_1 q_19 hX4_isStop ⟨Nat.le_of_ble_eq_true rfl, Nat.le_of_ble_eq_true rfl, rfl, rfl⟩ rfl dX4_fare_1 rfl hl.1 (Nat.le_of_ble_eq_true rfl) ⟨Nat.le_of_ble_eq_true rfl, Nat.le_of_ble_eq_true rfl⟩) ?_
  refine lv_if_eq (tgt := 14) hx hb dX4_fare_4 (by decide) (fun c_1 => absurd c_1 (f_inN (M := 9) (Nat.le_of_lt_succ hi) (by decide))) (fun c_1 => ?_)
  refine lv_iload_n hx hb dX4_fare_7 rfl (lv_at hl 2 rfl) ?_
  refine k_R (c_S0 ⟨hx, hb, hml, hown, hts⟩ (metX4_isStop l X b w g (nI k)) hK hW q_17 q_18 q_1 q_19 hX4_isStop ⟨Nat.le_of_ble_eq_true rfl, Nat.le_of_ble_eq_true rfl, rfl, rfl⟩ rfl dX4_fare_8 rfl hl.1 (Nat.le_of_ble_eq_true rfl) ⟨Nat.le_of_ble_eq_true rfl, Nat.le_of_ble_eq_true rfl⟩) ?_
  refine lv_if_ne (tgt := 24) hx hb dX4_fare_11 (by decide) (fun c_2 => ?_) (fun c_2 => False.elim ((f_inN (M := 9) (Nat.le_of_lt_succ hk) (by decide)) c_2))
  refine lv_aload_n hx hb dX4_fare_24 rfl (lv_at hl 0 rfl) ?_
  refine w_get hx hb hts inX4 hown hK hW (by decide) (Ent_0) rfl 0 (by decide) q_460 (fun _ h => h) rfl dX4_fare_25 ?_
  refine lv_iload_n hx hb dX4_fare_28 rfl (lv_at hl 1 rfl) ?_
  refine lv_iload_n hx hb dX4_fare_29 rfl (lv_at hl 2 rfl) ?_
  refine k_R (c_V0 ⟨hx, hb, hml, hown, hts⟩ (metX1_fareBetween l X b w g (Or.inl rfl) ⟨i, hi, rfl⟩ ⟨k, hk, rfl⟩) hK hW (ltL (Or.inl rfl)) (Ent_L (Or.inl rfl)) rfl q_147 q_148 q_149 q_2 q_150 hX1_fareBetween ⟨Nat.le_of_ble_eq_true rfl, Nat.le_of_ble_eq_true rfl, rfl, rfl⟩ rfl dX4_fare_30 rfl hl.1 (Nat.le_of_ble_eq_true rfl) ⟨Nat.le_of_ble_eq_true rfl, Nat.le_of_ble_eq_true rfl⟩) ?_
  exact W.iret (v := f_fareI (stg g 1) (nI i) (nI k)) hx hb hr (fun t9 ht9 _ => ⟨congrArg (fun z => Outcome.returned (some (Value.int z))) rfl, ht9⟩) (fun q hq => absurd hq List.not_mem_nil) dX4_fare_33
end
section
set_option maxHeartbeats 1000000 in
set_option maxRecDepth 100000 in
theorem mnX4_bus (l : Launch) (X : CX) (b : Nat) (w : Int64) (g : S2) {nb np : Nat} (h : OkL 1 nb np g) {j k : Nat} (hj : j < nb) (hk : k < 6) : Met l yX4_bus (wsg yX4_bus cX4_bus 3 (some .int)) ({ frames := 6, cells := 0, slots := 0, locals := 96 }) (Pre X b g w [.ref (b + 0), .int (nI j), .int (nI k)]) (QR (g (1 + 14 + j) (k + 1))) 0 0 NO := by
  refine Met.ofW (cc := cX4_bus) (maxL := 3) (ret := (some .int)) (by decide) rfl ?_
  intro p e s m args below meth c s₁ Bo hml hv
  obtain ⟨rfl, hW, hK⟩ := hv
  have hx := Bo.exec
  have hb := Bo.bytes
  have hr := Bo.returns
  have hts := hts_of (atoms_spec (ws := wsg yX4_bus cX4_bus 3 (some .int)) Bo.pre)
  have hown : s.vm.findClass RX4 = some m.cls := findClass_of_methodNamed Bo.named
  have hlocks := Bo.notSynchronized
  have hl := lv_entry ([.ref (b + 0), .int (nI j), .int (nI k)]) (n := 3) (Nat.le_of_ble_eq_true rfl)
  rw [lg_entry_eq]
  generalize (lg_sl ([.ref (b + 0), .int (nI j), .int (nI k)]) ++ List.replicate (3 - (lg_sl ([.ref (b + 0), .int (nI j), .int (nI k)])).length) Slot.unset).toArray = ls at hl ⊢
  have hl : lv_has ls 3 [(0, .ref (b + 0)), (1, .int (nI j)), (2, .int (nI k))] := hl
  obtain ⟨⟨h3, hnb⟩, ⟨h4, hnp⟩, hnum, hbus, hpas⟩ := id h
  refine lv_iload_n hx hb dX4_bus_0 rfl (lv_at hl 1 rfl) ?_
  refine lv_iconst (v := 0) hx hb dX4_bus_1 (by decide) ?_
  refine lv_aload_n hx hb dX4_bus_2 rfl (lv_at hl 0 rfl) ?_
  refine w_get hx hb hts inX4 hown hK hW (by decide) (Ent_0) rfl 0 (by decide) q_460 (fun _ h => h) rfl dX4_bus_3 ?_
  refine w_get hx hb hts inX1 hown hK hW (ltL (Or.inl rfl)) (Ent_L (Or.inl rfl)) rfl 3 (by decide) q_438 (fun _ h => h) rfl dX4_bus_6 ?_
  refine lv_iconst (v := 1) hx hb dX4_bus_9 (by decide) ?_
  refine lv_isub hx hb dX4_bus_10 ?_
  refine k_R (c_S0 ⟨hx, hb, hml, hown, hts⟩ (metX4_isWithin l X b w g (nI j) 0 ((g 1 3) - 1)) hK hW q_20 q_21 q_1 q_22 hX4_isWithin ⟨Nat.le_of_ble_eq_true rfl, Nat.le_of_ble_eq_true rfl, rfl, rfl⟩ rfl dX4_bus_11 rfl hl.1 (Nat.le_of_ble_eq_true rfl) ⟨Nat.le_of_ble_eq_true rfl, Nat.le_of_ble_eq_true rfl⟩) ?_
  refine lv_if_eq (tgt := 26) hx hb dX4_bus_14 (by decide) (fun c_1 => absurd c_1 (f_inC h3 hj (by omega))) (fun c_1 => ?_)
  refine lv_iload_n hx hb dX4_bus_17 rfl (lv_at hl 2 rfl) ?_
  refine lv_iconst (v := 0) hx hb dX4_bus_18 (by decide) ?_
  refine lv_iconst (v := 5) hx hb dX4_bus_19 (by decide) ?_
  refine k_R (c_S0 ⟨hx, hb, hml, hown, hts⟩ (metX4_isWithin l X b w g (nI k) 0 5) hK hW q_20 q_21 q_1 q_22 hX4_isWithin ⟨Nat.le_of_ble_eq_true rfl, Nat.le_of_ble_eq_true rfl, rfl, rfl⟩ rfl dX4_bus_20 rfl hl.1 (Nat.le_of_ble_eq_true rfl) ⟨Nat.le_of_ble_eq_true rfl, Nat.le_of_ble_eq_true rfl⟩) ?_
  refine lv_if_ne (tgt := 36) hx hb dX4_bus_23 (by decide) (fun c_2 => ?_) (fun c_2 => False.elim ((f_inN (M := 5) (Nat.le_of_lt_succ hk) (by decide)) c_2))
  refine lv_aload_n hx hb dX4_bus_36 rfl (lv_at hl 0 rfl) ?_
  refine w_get hx hb hts inX4 hown hK hW (by decide) (Ent_0) rfl 0 (by decide) q_460 (fun _ h => h) rfl dX4_bus_37 ?_
  refine w_get hx hb hts inX1 hown hK hW (ltL (Or.inl rfl)) (Ent_L (Or.inl rfl)) rfl 1 (by decide) q_434 (fun _ h => h) rfl dX4_bus_40 ?_
  refine lv_iload_n hx hb dX4_bus_43 rfl (lv_at hl 1 rfl) ?_
  refine w_aldB hx hb hK hW (Or.inl rfl) j rfl ((by omega)) dX4_bus_44 ?_
  refine lv_iload_n hx hb dX4_bus_45 rfl (lv_at hl 2 rfl) ?_
  refine k_R (c_V0 ⟨hx, hb, hml, hown, hts⟩ (metX0_tell l X b w g (P := 1 + 14 + j) (isB_of (Or.inl rfl) ((by omega))) (hbus _ hj).2 k hk) hK hW (ltB (isB_of (Or.inl rfl) ((by omega)))) (Ent_B (isB_of (Or.inl rfl) ((by omega)))) rfl q_157 q_158 q_159 q_4 q_160 hX0_tell ⟨Nat.le_of_ble_eq_true rfl, Nat.le_of_ble_eq_true rfl, rfl, rfl⟩ rfl dX4_bus_46 rfl hl.1 (Nat.le_of_ble_eq_true rfl) ⟨Nat.le_of_ble_eq_true rfl, Nat.le_of_ble_eq_true rfl⟩) ?_
  exact W.iret (v := g (1 + 14 + j) (k + 1)) hx hb hr (fun t9 ht9 _ => ⟨congrArg (fun z => Outcome.returned (some (Value.int z))) rfl, ht9⟩) (fun q hq => absurd hq List.not_mem_nil) dX4_bus_49

set_option maxHeartbeats 1000000 in
set_option maxRecDepth 100000 in
theorem mnX4_passenger (l : Launch) (X : CX) (b : Nat) (w : Int64) (g : S2) {nb np : Nat} (h : OkL 1 nb np g) {j k : Nat} (hj : j < np) (hk : k < 7) : Met l yX4_passenger (wsg yX4_passenger cX4_passenger 3 (some .int)) ({ frames := 6, cells := 0, slots := 0, locals := 96 }) (Pre X b g w [.ref (b + 0), .int (nI j), .int (nI k)]) (QR (g (1 + 20 + j) k)) 0 0 NO := by
  refine Met.ofW (cc := cX4_passenger) (maxL := 3) (ret := (some .int)) (by decide) rfl ?_
  intro p e s m args below meth c s₁ Bo hml hv
  obtain ⟨rfl, hW, hK⟩ := hv
  have hx := Bo.exec
  have hb := Bo.bytes
  have hr := Bo.returns
  have hts := hts_of (atoms_spec (ws := wsg yX4_passenger cX4_passenger 3 (some .int)) Bo.pre)
  have hown : s.vm.findClass RX4 = some m.cls := findClass_of_methodNamed Bo.named
  have hlocks := Bo.notSynchronized
  have hl := lv_entry ([.ref (b + 0), .int (nI j), .int (nI k)]) (n := 3) (Nat.le_of_ble_eq_true rfl)
  rw [lg_entry_eq]
  generalize (lg_sl ([.ref (b + 0), .int (nI j), .int (nI k)]) ++ List.replicate (3 - (lg_sl ([.ref (b + 0), .int (nI j), .int (nI k)])).length) Slot.unset).toArray = ls at hl ⊢
  have hl : lv_has ls 3 [(0, .ref (b + 0)), (1, .int (nI j)), (2, .int (nI k))] := hl
  obtain ⟨⟨h3, hnb⟩, ⟨h4, hnp⟩, hnum, hbus, hpas⟩ := id h
  refine lv_aload_n hx hb dX4_passenger_0 rfl (lv_at hl 0 rfl) ?_
  refine lv_iload_n hx hb dX4_passenger_1 rfl (lv_at hl 1 rfl) ?_
  refine k_R (c_V0 ⟨hx, hb, hml, hown, hts⟩ (metX4_isPassenger l X b w g (nI j)) hK hW (by decide) (Ent_0) rfl q_165 q_167 qs_1 q_1 q_169 hX4_isPassenger ⟨Nat.le_of_ble_eq_true rfl, Nat.le_of_ble_eq_true rfl, rfl, rfl⟩ rfl dX4_passenger_2 rfl hl.1 (Nat.le_of_ble_eq_true rfl) ⟨Nat.le_of_ble_eq_true rfl, Nat.le_of_ble_eq_true rfl⟩) ?_
  refine lv_if_eq (tgt := 18) hx hb dX4_passenger_5 (by decide) (fun c_1 => absurd c_1 (f_inC h4 hj (by omega))) (fun c_1 => ?_)
  refine lv_iload_n hx hb dX4_passenger_8 rfl (lv_at hl 2 rfl) ?_
  refine lv_iconst (v := 0) hx hb dX4_passenger_9 (by decide) ?_
  refine lv_bipush (v := 6) hx hb dX4_passenger_10 (by decide) ?_
  refine k_R (c_S0 ⟨hx, hb, hml, hown, hts⟩ (metX4_isWithin l X b w g (nI k) 0 6) hK hW q_20 q_21 q_1 q_22 hX4_isWithin ⟨Nat.le_of_ble_eq_true rfl, Nat.le_of_ble_eq_true rfl, rfl, rfl⟩ rfl dX4_passenger_12 rfl hl.1 (Nat.le_of_ble_eq_true rfl) ⟨Nat.le_of_ble_eq_true rfl, Nat.le_of_ble_eq_true rfl⟩) ?_
  refine lv_if_ne (tgt := 28) hx hb dX4_passenger_15 (by decide) (fun c_2 => ?_) (fun c_2 => False.elim ((f_inN (M := 6) (Nat.le_of_lt_succ hk) (by decide)) c_2))
  refine lv_aload_n hx hb dX4_passenger_28 rfl (lv_at hl 0 rfl) ?_
  refine w_get hx hb hts inX4 hown hK hW (by decide) (Ent_0) rfl 0 (by decide) q_460 (fun _ h => h) rfl dX4_passenger_29 ?_
  refine w_get hx hb hts inX1 hown hK hW (ltL (Or.inl rfl)) (Ent_L (Or.inl rfl)) rfl 2 (by decide) q_436 (fun _ h => h) rfl dX4_passenger_32 ?_
  refine lv_iload_n hx hb dX4_passenger_35 rfl (lv_at hl 1 rfl) ?_
  refine w_aldP hx hb hK hW (Or.inl rfl) j rfl ((by omega)) dX4_passenger_36 ?_
  refine lv_iload_n hx hb dX4_passenger_37 rfl (lv_at hl 2 rfl) ?_
  refine k_R (c_V0 ⟨hx, hb, hml, hown, hts⟩ (metX2_tell l X b w g (P := 1 + 20 + j) (isP_of (Or.inl rfl) ((by omega))) k hk) hK hW (ltP (isP_of (Or.inl rfl) ((by omega)))) (Ent_P (isP_of (Or.inl rfl) ((by omega)))) rfl q_171 q_172 q_173 q_5 q_174 hX2_tell ⟨Nat.le_of_ble_eq_true rfl, Nat.le_of_ble_eq_true rfl, rfl, rfl⟩ rfl dX4_passenger_38 rfl hl.1 (Nat.le_of_ble_eq_true rfl) ⟨Nat.le_of_ble_eq_true rfl, Nat.le_of_ble_eq_true rfl⟩) ?_
  exact W.iret (v := g (1 + 20 + j) (k + 0)) hx hb hr (fun t9 ht9 _ => ⟨congrArg (fun z => Outcome.returned (some (Value.int z))) rfl, ht9⟩) (fun q hq => absurd hq List.not_mem_nil) dX4_passenger_41

set_option maxHeartbeats 1000000 in
set_option maxRecDepth 100000 in
theorem mnX4_stop (l : Launch) (X : CX) (b : Nat) (w : Int64) (g : S2) {nb np : Nat} (h : OkL 1 nb np g) {j k : Nat} (hj : j < 10) (hk : k < 5) : Met l yX4_stop (wsg yX4_stop cX4_stop 3 (some .int)) ({ frames := 6, cells := 0, slots := 0, locals := 96 }) (Pre X b g w [.ref (b + 0), .int (nI j), .int (nI k)]) (QR (f_tellS g 1 nb np j k)) 0 0 NO := by
  refine Met.ofW (cc := cX4_stop) (maxL := 3) (ret := (some .int)) (by decide) rfl ?_
  intro p e s m args below meth c s₁ Bo hml hv
  obtain ⟨rfl, hW, hK⟩ := hv
  have hx := Bo.exec
  have hb := Bo.bytes
  have hr := Bo.returns
  have hts := hts_of (atoms_spec (ws := wsg yX4_stop cX4_stop 3 (some .int)) Bo.pre)
  have hown : s.vm.findClass RX4 = some m.cls := findClass_of_methodNamed Bo.named
  have hlocks := Bo.notSynchronized
  have hl := lv_entry ([.ref (b + 0), .int (nI j), .int (nI k)]) (n := 3) (Nat.le_of_ble_eq_true rfl)
  rw [lg_entry_eq]
  generalize (lg_sl ([.ref (b + 0), .int (nI j), .int (nI k)]) ++ List.replicate (3 - (lg_sl ([.ref (b + 0), .int (nI j), .int (nI k)])).length) Slot.unset).toArray = ls at hl ⊢
  have hl : lv_has ls 3 [(0, .ref (b + 0)), (1, .int (nI j)), (2, .int (nI k))] := hl
  obtain ⟨⟨h3, hnb⟩, ⟨h4, hnp⟩, hnum, hbus, hpas⟩ := id h
  refine lv_iload_n hx hb dX4_stop_0 rfl (lv_at hl 1 rfl) ?_
  refine k_R (c_S0 ⟨hx, hb, hml, hown, hts⟩ (metX4_isStop l X b w g (nI j)) hK hW q_17 q_18 q_1 q_19 hX4_isStop ⟨Nat.le_of_ble_eq_true rfl, Nat.le_of_ble_eq_true rfl, rfl, rfl⟩ rfl dX4_stop_1 rfl hl.1 (Nat.le_of_ble_eq_true rfl) ⟨Nat.le_of_ble_eq_true rfl, Nat.le_of_ble_eq_true rfl⟩) ?_
  refine lv_if_eq (tgt := 16) hx hb dX4_stop_4 (by decide) (fun c_1 => absurd c_1 (f_inN (M := 9) (Nat.le_of_lt_succ hj) (by decide))) (fun c_1 => ?_)
  refine lv_iload_n hx hb dX4_stop_7 rfl (lv_at hl 2 rfl) ?_
  refine lv_iconst (v := 0) hx hb dX4_stop_8 (by decide) ?_
  refine lv_iconst (v := 4) hx hb dX4_stop_9 (by decide) ?_
  refine k_R (c_S0 ⟨hx, hb, hml, hown, hts⟩ (metX4_isWithin l X b w g (nI k) 0 4) hK hW q_20 q_21 q_1 q_22 hX4_isWithin ⟨Nat.le_of_ble_eq_true rfl, Nat.le_of_ble_eq_true rfl, rfl, rfl⟩ rfl dX4_stop_10 rfl hl.1 (Nat.le_of_ble_eq_true rfl) ⟨Nat.le_of_ble_eq_true rfl, Nat.le_of_ble_eq_true rfl⟩) ?_
  refine lv_if_ne (tgt := 26) hx hb dX4_stop_13 (by decide) (fun c_2 => ?_) (fun c_2 => False.elim ((f_inN (M := 4) (Nat.le_of_lt_succ hk) (by decide)) c_2))
  refine lv_aload_n hx hb dX4_stop_26 rfl (lv_at hl 0 rfl) ?_
  refine w_get hx hb hts inX4 hown hK hW (by decide) (Ent_0) rfl 0 (by decide) q_460 (fun _ h => h) rfl dX4_stop_27 ?_
  refine lv_iload_n hx hb dX4_stop_30 rfl (lv_at hl 1 rfl) ?_
  refine lv_iload_n hx hb dX4_stop_31 rfl (lv_at hl 2 rfl) ?_
  refine k_R (c_V0 ⟨hx, hb, hml, hown, hts⟩ (metX1_tellStop l X b w g (o := 1) (Or.inl rfl) h j hj k hk) hK hW (ltL (Or.inl rfl)) (Ent_L (Or.inl rfl)) rfl q_180 q_181 q_182 q_2 q_183 hX1_tellStop ⟨Nat.le_of_ble_eq_true rfl, Nat.le_of_ble_eq_true rfl, rfl, rfl⟩ rfl dX4_stop_32 rfl hl.1 (Nat.le_of_ble_eq_true rfl) ⟨Nat.le_of_ble_eq_true rfl, Nat.le_of_ble_eq_true rfl⟩) ?_
  exact W.iret (v := f_tellS g 1 nb np j k) hx hb hr (fun t9 ht9 _ => ⟨congrArg (fun z => Outcome.returned (some (Value.int z))) rfl, ht9⟩) (fun q hq => absurd hq List.not_mem_nil) dX4_stop_35

set_option maxHeartbeats 1000000 in
set_option maxRecDepth 100000 in
theorem mnX4_count (l : Launch) (X : CX) (b : Nat) (w : Int64) (g : S2) {nb np : Nat} (h : OkL 1 nb np g) {k : Nat} (hk : k < 10) : Met l yX4_count (wsg yX4_count cX4_count 2 (some .int)) ({ frames := 6, cells := 0, slots := 0, locals := 96 }) (Pre X b g w [.ref (b + 0), .int (nI k)]) (QR (f_tellC g 1 nb np k)) 0 0 NO := by
  refine Met.ofW (cc := cX4_count) (maxL := 2) (ret := (some .int)) (by decide) rfl ?_
  intro p e s m args below meth c s₁ Bo hml hv
  obtain ⟨rfl, hW, hK⟩ := hv
  have hx := Bo.exec
  have hb := Bo.bytes
  have hr := Bo.returns
  have hts := hts_of (atoms_spec (ws := wsg yX4_count cX4_count 2 (some .int)) Bo.pre)
  have hown : s.vm.findClass RX4 = some m.cls := findClass_of_methodNamed Bo.named
  have hlocks := Bo.notSynchronized
  have hl := lv_entry ([.ref (b + 0), .int (nI k)]) (n := 2) (Nat.le_of_ble_eq_true rfl)
  rw [lg_entry_eq]
  generalize (lg_sl ([.ref (b + 0), .int (nI k)]) ++ List.replicate (2 - (lg_sl ([.ref (b + 0), .int (nI k)])).length) Slot.unset).toArray = ls at hl ⊢
  have hl : lv_has ls 2 [(0, .ref (b + 0)), (1, .int (nI k))] := hl
  obtain ⟨⟨h3, hnb⟩, ⟨h4, hnp⟩, hnum, hbus, hpas⟩ := id h
  refine lv_iload_n hx hb dX4_count_0 rfl (lv_at hl 1 rfl) ?_
  refine lv_iconst (v := 0) hx hb dX4_count_1 (by decide) ?_
  refine lv_bipush (v := 9) hx hb dX4_count_2 (by decide) ?_
  refine k_R (c_S0 ⟨hx, hb, hml, hown, hts⟩ (metX4_isWithin l X b w g (nI k) 0 9) hK hW q_20 q_21 q_1 q_22 hX4_isWithin ⟨Nat.le_of_ble_eq_true rfl, Nat.le_of_ble_eq_true rfl, rfl, rfl⟩ rfl dX4_count_4 rfl hl.1 (Nat.le_of_ble_eq_true rfl) ⟨Nat.le_of_ble_eq_true rfl, Nat.le_of_ble_eq_true rfl⟩) ?_
  refine lv_if_ne (tgt := 20) hx hb dX4_count_7 (by decide) (fun c_1 => ?_) (fun c_1 => False.elim ((f_inN (M := 9) (Nat.le_of_lt_succ hk) (by decide)) c_1))
  refine lv_aload_n hx hb dX4_count_20 rfl (lv_at hl 0 rfl) ?_
  refine w_get hx hb hts inX4 hown hK hW (by decide) (Ent_0) rfl 0 (by decide) q_460 (fun _ h => h) rfl dX4_count_21 ?_
  refine lv_iload_n hx hb dX4_count_24 rfl (lv_at hl 1 rfl) ?_
  refine k_R (c_V0 ⟨hx, hb, hml, hown, hts⟩ (metX1_tellCount l X b w g (o := 1) (Or.inl rfl) h k hk) hK hW (ltL (Or.inl rfl)) (Ent_L (Or.inl rfl)) rfl q_201 q_202 q_203 q_2 q_204 hX1_tellCount ⟨Nat.le_of_ble_eq_true rfl, Nat.le_of_ble_eq_true rfl, rfl, rfl⟩ rfl dX4_count_25 rfl hl.1 (Nat.le_of_ble_eq_true rfl) ⟨Nat.le_of_ble_eq_true rfl, Nat.le_of_ble_eq_true rfl⟩) ?_
  exact W.iret (v := f_tellC g 1 nb np k) hx hb hr (fun t9 ht9 _ => ⟨congrArg (fun z => Outcome.returned (some (Value.int z))) rfl, ht9⟩) (fun q hq => absurd hq List.not_mem_nil) dX4_count_28

set_option maxHeartbeats 1000000 in
set_option maxRecDepth 100000 in
theorem mnX4_go (l : Launch) (X : CX) (b : Nat) (w : Int64) (g : S2) {nb np : Nat} (h : OkL 1 nb np g) {n : Nat} (hn1 : 1 ≤ n) (hn : n ≤ 120) : Met l yX4_go (wsg yX4_go cX4_go 3 (some .int)) ({ frames := 6, cells := 0, slots := 0, locals := 138 }) (Pre X b g w [.ref (b + 0), .int (nI n)]) (Qi X b w (fun (r : Int32) (g1 : S2) => r = nI (cnB (q_in g1 1 2) np) - nI (cnB (q_in g 1 2) np) ∧ g1 = f_mins g 1 nb np n)) 0 0 (AA b) := by
  refine Met.ofW (cc := cX4_go) (maxL := 3) (ret := (some .int)) (by decide) rfl ?_
  intro p e s m args below meth c s₁ Bo hml hv
  obtain ⟨rfl, hW, hK⟩ := hv
  have hx := Bo.exec
  have hb := Bo.bytes
  have hr := Bo.returns
  have hts := hts_of (atoms_spec (ws := wsg yX4_go cX4_go 3 (some .int)) Bo.pre)
  have hown : s.vm.findClass RX4 = some m.cls := findClass_of_methodNamed Bo.named
  have hlocks := Bo.notSynchronized
  have hS : va_S (AA b) s.heap s.heap [] := va_S.rf
  have hl := lv_entry ([.ref (b + 0), .int (nI n)]) (n := 3) (Nat.le_of_ble_eq_true rfl)
  rw [lg_entry_eq]
  generalize (lg_sl ([.ref (b + 0), .int (nI n)]) ++ List.replicate (3 - (lg_sl ([.ref (b + 0), .int (nI n)])).length) Slot.unset).toArray = ls at hl ⊢
  have hl : lv_has ls 3 [(0, .ref (b + 0)), (1, .int (nI n))] := hl
  obtain ⟨⟨h3, hnb⟩, ⟨h4, hnp⟩, hnum, hbus, hpas⟩ := id h
  refine lv_iload_n hx hb dX4_go_0 rfl (lv_at hl 1 rfl) ?_
  refine lv_iconst (v := 1) hx hb dX4_go_1 (by decide) ?_
  refine lv_bipush (v := 120) hx hb dX4_go_2 (by decide) ?_
  refine k_R (c_S0 ⟨hx, hb, hml, hown, hts⟩ (metX4_isWithin l X b w g (nI n) 1 120) hK hW q_20 q_21 q_1 q_22 hX4_isWithin ⟨Nat.le_of_ble_eq_true rfl, Nat.le_of_ble_eq_true rfl, rfl, rfl⟩ rfl dX4_go_4 rfl hl.1 (Nat.le_of_ble_eq_true rfl) ⟨Nat.le_of_ble_eq_true rfl, Nat.le_of_ble_eq_true rfl⟩) ?_
  refine lv_if_ne (tgt := 20) hx hb dX4_go_7 (by decide) (fun c_1 => ?_) (fun c_1 => False.elim ((f_in1N (M := 120) hn1 hn (by decide)) c_1))
  refine lv_aload_n hx hb dX4_go_20 rfl (lv_at hl 0 rfl) ?_
  refine w_get hx hb hts inX4 hown hK hW (by decide) (Ent_0) rfl 0 (by decide) q_460 (fun _ h => h) rfl dX4_go_21 ?_
  refine lv_iconst (v := 2) hx hb dX4_go_24 (by decide) ?_
  refine k_R (c_V0 ⟨hx, hb, hml, hown, hts⟩ (metX1_passengersIn l X b w g (o := 1) (Or.inl rfl) h 2) hK hW (ltL (Or.inl rfl)) (Ent_L (Or.inl rfl)) rfl q_230 q_206 q_207 q_2 q_208 hX1_passengersIn ⟨Nat.le_of_ble_eq_true rfl, Nat.le_of_ble_eq_true rfl, rfl, rfl⟩ rfl dX4_go_25 rfl hl.1 (Nat.le_of_ble_eq_true rfl) ⟨Nat.le_of_ble_eq_true rfl, Nat.le_of_ble_eq_true rfl⟩) ?_
  refine lv_istore_n (lv' := [(2, .int (nI (cnB (q_in g 1 2) np))), (0, .ref (b + 0)), (1, .int (nI n))]) hx hb dX4_go_28 rfl hl (by decide) rfl (fun ls hl => ?_)
  refine lv_aload_n hx hb dX4_go_29 rfl (lv_at hl 1 rfl) ?_
  refine w_get hx hb hts inX4 hown hK hW (by decide) (Ent_0) rfl 0 (by decide) q_460 (fun _ h => h) rfl dX4_go_30 ?_
  refine lv_iload_n hx hb dX4_go_33 rfl (lv_at hl 2 rfl) ?_
  refine k_v (c_V0 ⟨hx, hb, hml, hown, hts⟩ (metX1_passMinutes l X b w g (o := 1) (Or.inl rfl) h n hn) hK hW (ltL (Or.inl rfl)) (Ent_L (Or.inl rfl)) rfl q_231 q_232 q_233 q_2 q_234 hX1_passMinutes ⟨Nat.le_of_ble_eq_true rfl, Nat.le_of_ble_eq_true rfl, rfl, rfl⟩ rfl dX4_go_34 rfl hl.1 (Nat.le_of_ble_eq_true rfl) ⟨Nat.le_of_ble_eq_true rfl, Nat.le_of_ble_eq_true rfl⟩) hS (fun g_2 H locs hp hW hS => ?_)
  have h_1 : OkL 1 nb np g_2 := by rw [hp]; exact okl_mins h _
  refine lv_aload_n hx hb dX4_go_37 rfl (lv_at hl 1 rfl) ?_
  refine w_get hx hb hts inX4 hown hK hW (by decide) (Ent_0) rfl 0 (by decide) q_460 (fun _ h => h) rfl dX4_go_38 ?_
  refine lv_iconst (v := 2) hx hb dX4_go_41 (by decide) ?_
  refine k_R (c_V0 ⟨hx, hb, hml, hown, hts⟩ (metX1_passengersIn l X b w g_2 (o := 1) (Or.inl rfl) h_1 2) hK hW (ltL (Or.inl rfl)) (Ent_L (Or.inl rfl)) rfl q_230 q_206 q_207 q_2 q_208 hX1_passengersIn ⟨Nat.le_of_ble_eq_true rfl, Nat.le_of_ble_eq_true rfl, rfl, rfl⟩ rfl dX4_go_42 rfl hl.1 (Nat.le_of_ble_eq_true rfl) ⟨Nat.le_of_ble_eq_true rfl, Nat.le_of_ble_eq_true rfl⟩) ?_
  refine lv_iload_n hx hb dX4_go_45 rfl (lv_at hl 0 rfl) ?_
  refine lv_isub hx hb dX4_go_46 ?_
  exact W.iret (v := (nI (cnB (q_in g_2 1 2) np)) - (nI (cnB (q_in g 1 2) np))) hx hb hr (fun t9 ht9 _ => ⟨⟨(nI (cnB (q_in g_2 1 2) np)) - (nI (cnB (q_in g 1 2) np)), g_2, rfl, ⟨rfl, hp⟩, by show wd X b _ w t9.heap; rw [ht9]; exact hW⟩, hS.F ht9⟩) hS.2.2 dX4_go_47

/-- foresee's answers -/
def f_see (g : S2) (nb np : Nat) : Nat → Int32
  | 0 => nI (cnB (q_in g 71 2) np) - nI (cnB (q_in g 1 2) np)
  | 1 => sumF (fun q => g (71 + 20 + q) 4) np - sumF (fun q => g (1 + 20 + q) 4) np
  | 2 => sumF (fun q => g (71 + 20 + q) 5) np - sumF (fun q => g (1 + 20 + q) 5) np
  | _ => nI (cnP (q_bu g 71) nb nb)

set_option maxHeartbeats 1000000 in
set_option maxRecDepth 100000 in
theorem mnX4_foresee (l : Launch) (X : CX) (b : Nat) (w : Int64) (g : S2) {nb np : Nat} (h : OkL 1 nb np g) (hN : NumT g) {n k : Nat} (hn1 : 1 ≤ n) (hn : n ≤ 120) (hk : k < 4) : Met l yX4_foresee (wsg yX4_foresee cX4_foresee 3 (some .int)) ({ frames := 6, cells := 0, slots := 0, locals := 138 }) (Pre X b g w [.ref (b + 0), .int (nI n), .int (nI k)]) (Qi X b w (fun (r : Int32) (g1 : S2) => r = f_see g1 nb np k ∧ g1 = f_mins (f_copy g 71 1 nb np) 71 nb np n)) 0 0 (AA b) := by
  refine Met.ofW (cc := cX4_foresee) (maxL := 3) (ret := (some .int)) (by decide) rfl ?_
  intro p e s m args below meth c s₁ Bo hml hv
  obtain ⟨rfl, hW, hK⟩ := hv
  have hx := Bo.exec
  have hb := Bo.bytes
  have hr := Bo.returns
  have hts := hts_of (atoms_spec (ws := wsg yX4_foresee cX4_foresee 3 (some .int)) Bo.pre)
  have hown : s.vm.findClass RX4 = some m.cls := findClass_of_methodNamed Bo.named
  have hlocks := Bo.notSynchronized
  have hS : va_S (AA b) s.heap s.heap [] := va_S.rf
  have hl := lv_entry ([.ref (b + 0), .int (nI n), .int (nI k)]) (n := 3) (Nat.le_of_ble_eq_true rfl)
  rw [lg_entry_eq]
  generalize (lg_sl ([.ref (b + 0), .int (nI n), .int (nI k)]) ++ List.replicate (3 - (lg_sl ([.ref (b + 0), .int (nI n), .int (nI k)])).length) Slot.unset).toArray = ls at hl ⊢
  have hl : lv_has ls 3 [(0, .ref (b + 0)), (1, .int (nI n)), (2, .int (nI k))] := hl
  obtain ⟨⟨h3, hnb⟩, ⟨h4, hnp⟩, hnum, hbus, hpas⟩ := id h
  refine lv_iload_n hx hb dX4_foresee_0 rfl (lv_at hl 1 rfl) ?_
  refine lv_iconst (v := 1) hx hb dX4_foresee_1 (by decide) ?_
  refine lv_bipush (v := 120) hx hb dX4_foresee_2 (by decide) ?_
  refine k_R (c_S0 ⟨hx, hb, hml, hown, hts⟩ (metX4_isWithin l X b w g (nI n) 1 120) hK hW q_20 q_21 q_1 q_22 hX4_isWithin ⟨Nat.le_of_ble_eq_true rfl, Nat.le_of_ble_eq_true rfl, rfl, rfl⟩ rfl dX4_foresee_4 rfl hl.1 (Nat.le_of_ble_eq_true rfl) ⟨Nat.le_of_ble_eq_true rfl, Nat.le_of_ble_eq_true rfl⟩) ?_
  refine lv_if_ne (tgt := 20) hx hb dX4_foresee_7 (by decide) (fun c_1 => ?_) (fun c_1 => False.elim ((f_in1N (M := 120) hn1 hn (by decide)) c_1))
  refine lv_iload_n hx hb dX4_foresee_20 rfl (lv_at hl 2 rfl) ?_
  refine lv_iconst (v := 0) hx hb dX4_foresee_21 (by decide) ?_
  refine lv_iconst (v := 3) hx hb dX4_foresee_22 (by decide) ?_
  refine k_R (c_S0 ⟨hx, hb, hml, hown, hts⟩ (metX4_isWithin l X b w g (nI k) 0 3) hK hW q_20 q_21 q_1 q_22 hX4_isWithin ⟨Nat.le_of_ble_eq_true rfl, Nat.le_of_ble_eq_true rfl, rfl, rfl⟩ rfl dX4_foresee_23 rfl hl.1 (Nat.le_of_ble_eq_true rfl) ⟨Nat.le_of_ble_eq_true rfl, Nat.le_of_ble_eq_true rfl⟩) ?_
  refine lv_if_ne (tgt := 39) hx hb dX4_foresee_26 (by decide) (fun c_2 => ?_) (fun c_2 => False.elim ((f_inN (M := 3) (Nat.le_of_lt_succ hk) (by decide)) c_2))
  refine lv_aload_n hx hb dX4_foresee_39 rfl (lv_at hl 0 rfl) ?_
  refine w_get hx hb hts inX4 hown hK hW (by decide) (Ent_0) rfl 1 (by decide) q_461 (fun _ h => h) rfl dX4_foresee_40 ?_
  refine lv_aload_n hx hb dX4_foresee_43 rfl (lv_at hl 0 rfl) ?_
  refine w_get hx hb hts inX4 hown hK hW (by decide) (Ent_0) rfl 0 (by decide) q_460 (fun _ h => h) rfl dX4_foresee_44 ?_
  refine k_v (c_V0 ⟨hx, hb, hml, hown, hts⟩ (metX1_copyFrom l X b w g (t := 71) (o := 1) (nb := nb) (np := np) LL71 h) hK hW (ltL (Or.inr rfl)) (Ent_L (Or.inr rfl)) rfl q_277 q_278 q_279 q_2 q_280 hX1_copyFrom ⟨Nat.le_of_ble_eq_true rfl, Nat.le_of_ble_eq_true rfl, rfl, rfl⟩ rfl dX4_foresee_47 rfl hl.1 (Nat.le_of_ble_eq_true rfl) ⟨Nat.le_of_ble_eq_true rfl, Nat.le_of_ble_eq_true rfl⟩) hS (fun g_3 H locs hp hW hS => ?_)
  have ht1 : OkL 71 nb np g_3 := by rw [hp]; exact okl_copy LL71 h hN
  have hcp : g_3 = f_copy g 71 1 nb np := hp
  refine lv_aload_n hx hb dX4_foresee_50 rfl (lv_at hl 0 rfl) ?_
  refine w_get hx hb hts inX4 hown hK hW (by decide) (Ent_0) rfl 1 (by decide) q_461 (fun _ h => h) rfl dX4_foresee_51 ?_
  refine lv_iload_n hx hb dX4_foresee_54 rfl (lv_at hl 1 rfl) ?_
  refine k_v (c_V0 ⟨hx, hb, hml, hown, hts⟩ (metX1_passMinutes l X b w g_3 (o := 71) (Or.inr rfl) ht1 n hn) hK hW (ltL (Or.inr rfl)) (Ent_L (Or.inr rfl)) rfl q_231 q_232 q_233 q_2 q_234 hX1_passMinutes ⟨Nat.le_of_ble_eq_true rfl, Nat.le_of_ble_eq_true rfl, rfl, rfl⟩ rfl dX4_foresee_55 rfl hl.1 (Nat.le_of_ble_eq_true rfl) ⟨Nat.le_of_ble_eq_true rfl, Nat.le_of_ble_eq_true rfl⟩) hS (fun g_4 H locs hp hW hS => ?_)
  have h_2 : OkL 71 nb np g_4 := by rw [hp]; exact okl_mins ht1 _
  have h_1 : OkL 1 nb np g_4 := Kp.ok (by rw [hp]; exact kp_mins (by rw [hcp]; exact kp_copy (fun _ _ => rfl) hnb hnp) ht1) h
  refine lv_iload_n hx hb dX4_foresee_58 rfl (lv_at hl 2 rfl) ?_
  rcases (by omega : k = 0 ∨ k = 1 ∨ k = 2 ∨ k = 3) with rfl | rfl | rfl | rfl
  · refine lv_tableIn (off := 25) (tgt := 84) hx hb dX4_foresee_59 (by decide) (by decide) (by decide) (by decide) ?_
    refine lv_aload_n hx hb dX4_foresee_84 rfl (lv_at hl 0 rfl) ?_
    refine w_get hx hb hts inX4 hown hK hW (by decide) (Ent_0) rfl 1 (by decide) q_461 (fun _ h => h) rfl dX4_foresee_85 ?_
    refine lv_iconst (v := 2) hx hb dX4_foresee_88 (by decide) ?_
    refine k_R (c_V0 ⟨hx, hb, hml, hown, hts⟩ (metX1_passengersIn l X b w g_4 (o := 71) (Or.inr rfl) h_2 2) hK hW (ltL (Or.inr rfl)) (Ent_L (Or.inr rfl)) rfl q_230 q_206 q_207 q_2 q_208 hX1_passengersIn ⟨Nat.le_of_ble_eq_true rfl, Nat.le_of_ble_eq_true rfl, rfl, rfl⟩ rfl dX4_foresee_89 rfl hl.1 (Nat.le_of_ble_eq_true rfl) ⟨Nat.le_of_ble_eq_true rfl, Nat.le_of_ble_eq_true rfl⟩) ?_
    refine lv_aload_n hx hb dX4_foresee_92 rfl (lv_at hl 0 rfl) ?_
    refine w_get hx hb hts inX4 hown hK hW (by decide) (Ent_0) rfl 0 (by decide) q_460 (fun _ h => h) rfl dX4_foresee_93 ?_
    refine lv_iconst (v := 2) hx hb dX4_foresee_96 (by decide) ?_
    refine k_R (c_V0 ⟨hx, hb, hml, hown, hts⟩ (metX1_passengersIn l X b w g_4 (o := 1) (Or.inl rfl) h_1 2) hK hW (ltL (Or.inl rfl)) (Ent_L (Or.inl rfl)) rfl q_230 q_206 q_207 q_2 q_208 hX1_passengersIn ⟨Nat.le_of_ble_eq_true rfl, Nat.le_of_ble_eq_true rfl, rfl, rfl⟩ rfl dX4_foresee_97 rfl hl.1 (Nat.le_of_ble_eq_true rfl) ⟨Nat.le_of_ble_eq_true rfl, Nat.le_of_ble_eq_true rfl⟩) ?_
    refine lv_isub hx hb dX4_foresee_100 ?_
    exact W.iret (v := (nI (cnB (q_in g_4 71 2) np)) - (nI (cnB (q_in g_4 1 2) np))) hx hb hr (fun t9 ht9 _ => ⟨⟨(nI (cnB (q_in g_4 71 2) np)) - (nI (cnB (q_in g_4 1 2) np)), g_4, rfl, ⟨rfl, (by rw [hp, hcp])⟩, by show wd X b _ w t9.heap; rw [ht9]; exact hW⟩, hS.F ht9⟩) hS.2.2 dX4_foresee_101
  · refine lv_tableIn (off := 43) (tgt := 102) hx hb dX4_foresee_59 (by decide) (by decide) (by decide) (by decide) ?_
    refine lv_aload_n hx hb dX4_foresee_102 rfl (lv_at hl 0 rfl) ?_
    refine w_get hx hb hts inX4 hown hK hW (by decide) (Ent_0) rfl 1 (by decide) q_461 (fun _ h => h) rfl dX4_foresee_103 ?_
    refine k_R (c_V0 ⟨hx, hb, hml, hown, hts⟩ (metX1_allPaid l X b w g_4 (o := 71) (Or.inr rfl) h_2) hK hW (ltL (Or.inr rfl)) (Ent_L (Or.inr rfl)) rfl q_298 q_210 q_211 q_2 q_212 hX1_allPaid ⟨Nat.le_of_ble_eq_true rfl, Nat.le_of_ble_eq_true rfl, rfl, rfl⟩ rfl dX4_foresee_106 rfl hl.1 (Nat.le_of_ble_eq_true rfl) ⟨Nat.le_of_ble_eq_true rfl, Nat.le_of_ble_eq_true rfl⟩) ?_
    refine lv_aload_n hx hb dX4_foresee_109 rfl (lv_at hl 0 rfl) ?_
    refine w_get hx hb hts inX4 hown hK hW (by decide) (Ent_0) rfl 0 (by decide) q_460 (fun _ h => h) rfl dX4_foresee_110 ?_
    refine k_R (c_V0 ⟨hx, hb, hml, hown, hts⟩ (metX1_allPaid l X b w g_4 (o := 1) (Or.inl rfl) h_1) hK hW (ltL (Or.inl rfl)) (Ent_L (Or.inl rfl)) rfl q_298 q_210 q_211 q_2 q_212 hX1_allPaid ⟨Nat.le_of_ble_eq_true rfl, Nat.le_of_ble_eq_true rfl, rfl, rfl⟩ rfl dX4_foresee_113 rfl hl.1 (Nat.le_of_ble_eq_true rfl) ⟨Nat.le_of_ble_eq_true rfl, Nat.le_of_ble_eq_true rfl⟩) ?_
    refine lv_isub hx hb dX4_foresee_116 ?_
    exact W.iret (v := (sumF (fun q => g_4 (71 + 20 + q) 4) np) - (sumF (fun q => g_4 (1 + 20 + q) 4) np)) hx hb hr (fun t9 ht9 _ => ⟨⟨(sumF (fun q => g_4 (71 + 20 + q) 4) np) - (sumF (fun q => g_4 (1 + 20 + q) 4) np), g_4, rfl, ⟨rfl, (by rw [hp, hcp])⟩, by show wd X b _ w t9.heap; rw [ht9]; exact hW⟩, hS.F ht9⟩) hS.2.2 dX4_foresee_117
  · refine lv_tableIn (off := 59) (tgt := 118) hx hb dX4_foresee_59 (by decide) (by decide) (by decide) (by decide) ?_
    refine lv_aload_n hx hb dX4_foresee_118 rfl (lv_at hl 0 rfl) ?_
    refine w_get hx hb hts inX4 hown hK hW (by decide) (Ent_0) rfl 1 (by decide) q_461 (fun _ h => h) rfl dX4_foresee_119 ?_
    refine k_R (c_V0 ⟨hx, hb, hml, hown, hts⟩ (metX1_allWaited l X b w g_4 (o := 71) (Or.inr rfl) h_2) hK hW (ltL (Or.inr rfl)) (Ent_L (Or.inr rfl)) rfl q_299 q_214 q_215 q_2 q_216 hX1_allWaited ⟨Nat.le_of_ble_eq_true rfl, Nat.le_of_ble_eq_true rfl, rfl, rfl⟩ rfl dX4_foresee_122 rfl hl.1 (Nat.le_of_ble_eq_true rfl) ⟨Nat.le_of_ble_eq_true rfl, Nat.le_of_ble_eq_true rfl⟩) ?_
    refine lv_aload_n hx hb dX4_foresee_125 rfl (lv_at hl 0 rfl) ?_
    refine w_get hx hb hts inX4 hown hK hW (by decide) (Ent_0) rfl 0 (by decide) q_460 (fun _ h => h) rfl dX4_foresee_126 ?_
    refine k_R (c_V0 ⟨hx, hb, hml, hown, hts⟩ (metX1_allWaited l X b w g_4 (o := 1) (Or.inl rfl) h_1) hK hW (ltL (Or.inl rfl)) (Ent_L (Or.inl rfl)) rfl q_299 q_214 q_215 q_2 q_216 hX1_allWaited ⟨Nat.le_of_ble_eq_true rfl, Nat.le_of_ble_eq_true rfl, rfl, rfl⟩ rfl dX4_foresee_129 rfl hl.1 (Nat.le_of_ble_eq_true rfl) ⟨Nat.le_of_ble_eq_true rfl, Nat.le_of_ble_eq_true rfl⟩) ?_
    refine lv_isub hx hb dX4_foresee_132 ?_
    exact W.iret (v := (sumF (fun q => g_4 (71 + 20 + q) 5) np) - (sumF (fun q => g_4 (1 + 20 + q) 5) np)) hx hb hr (fun t9 ht9 _ => ⟨⟨(sumF (fun q => g_4 (71 + 20 + q) 5) np) - (sumF (fun q => g_4 (1 + 20 + q) 5) np), g_4, rfl, ⟨rfl, (by rw [hp, hcp])⟩, by show wd X b _ w t9.heap; rw [ht9]; exact hW⟩, hS.F ht9⟩) hS.2.2 dX4_foresee_133
  · refine lv_tableOut (tgt := 134) hx hb dX4_foresee_59 (by decide) (by decide) ?_
    refine lv_aload_n hx hb dX4_foresee_134 rfl (lv_at hl 0 rfl) ?_
    refine w_get hx hb hts inX4 hown hK hW (by decide) (Ent_0) rfl 1 (by decide) q_461 (fun _ h => h) rfl dX4_foresee_135 ?_
    refine k_R (c_V0 ⟨hx, hb, hml, hown, hts⟩ (metX1_bunchedPairs l X b w g_4 (o := 71) (Or.inr rfl) h_2) hK hW (ltL (Or.inr rfl)) (Ent_L (Or.inr rfl)) rfl q_300 q_218 q_219 q_2 q_220 hX1_bunchedPairs ⟨Nat.le_of_ble_eq_true rfl, Nat.le_of_ble_eq_true rfl, rfl, rfl⟩ rfl dX4_foresee_138 rfl hl.1 (Nat.le_of_ble_eq_true rfl) ⟨Nat.le_of_ble_eq_true rfl, Nat.le_of_ble_eq_true rfl⟩) ?_
    exact W.iret (v := nI (cnP (q_bu g_4 71) nb nb)) hx hb hr (fun t9 ht9 _ => ⟨⟨nI (cnP (q_bu g_4 71) nb nb), g_4, rfl, ⟨rfl, (by rw [hp, hcp])⟩, by show wd X b _ w t9.heap; rw [ht9]; exact hW⟩, hS.F ht9⟩) hS.2.2 dX4_foresee_141

set_option maxHeartbeats 1000000 in
set_option maxRecDepth 100000 in
theorem mnX4_advise (l : Launch) (X : CX) (b : Nat) (w : Int64) (g : S2) {nb np : Nat} (h : OkL 1 nb np g) (hN : NumT g) {n : Nat} (hn1 : 1 ≤ n) (hn : n ≤ 120) : Met l yX4_advise (wsg yX4_advise cX4_advise 6 (some .int)) ({ frames := 6, cells := 0, slots := 0, locals := 138 }) (Pre X b g w [.ref (b + 0), .int (nI n)]) (Qi X b w (fun (r : Int32) (g1 : S2) => r = nI (f_adv g nb np n 16).2.1 ∧ g1 = (f_adv g nb np n 16).1)) 0 0 (AA b) := by
  refine Met.ofW (cc := cX4_advise) (maxL := 6) (ret := (some .int)) (by decide) rfl ?_
  intro p e s m args below meth c s₁ Bo hml hv
  obtain ⟨rfl, hW, hK⟩ := hv
  have hx := Bo.exec
  have hb := Bo.bytes
  have hr := Bo.returns
  have hts := hts_of (atoms_spec (ws := wsg yX4_advise cX4_advise 6 (some .int)) Bo.pre)
  have hown : s.vm.findClass RX4 = some m.cls := findClass_of_methodNamed Bo.named
  have hlocks := Bo.notSynchronized
  have hS : va_S (AA b) s.heap s.heap [] := va_S.rf
  have hl := lv_entry ([.ref (b + 0), .int (nI n)]) (n := 6) (Nat.le_of_ble_eq_true rfl)
  rw [lg_entry_eq]
  generalize (lg_sl ([.ref (b + 0), .int (nI n)]) ++ List.replicate (6 - (lg_sl ([.ref (b + 0), .int (nI n)])).length) Slot.unset).toArray = ls at hl ⊢
  have hl : lv_has ls 6 [(0, .ref (b + 0)), (1, .int (nI n))] := hl
  obtain ⟨⟨h3, hnb⟩, ⟨h4, hnp⟩, hnum, hbus, hpas⟩ := id h
  refine lv_iload_n hx hb dX4_advise_0 rfl (lv_at hl 1 rfl) ?_
  refine lv_iconst (v := 1) hx hb dX4_advise_1 (by decide) ?_
  refine lv_bipush (v := 120) hx hb dX4_advise_2 (by decide) ?_
  refine k_R (c_S0 ⟨hx, hb, hml, hown, hts⟩ (metX4_isWithin l X b w g (nI n) 1 120) hK hW q_20 q_21 q_1 q_22 hX4_isWithin ⟨Nat.le_of_ble_eq_true rfl, Nat.le_of_ble_eq_true rfl, rfl, rfl⟩ rfl dX4_advise_4 rfl hl.1 (Nat.le_of_ble_eq_true rfl) ⟨Nat.le_of_ble_eq_true rfl, Nat.le_of_ble_eq_true rfl⟩) ?_
  refine lv_if_ne (tgt := 20) hx hb dX4_advise_7 (by decide) (fun c_1 => ?_) (fun c_1 => False.elim ((f_in1N (M := 120) hn1 hn (by decide)) c_1))
  refine lv_iconst (v := 0) hx hb dX4_advise_20 (by decide) ?_
  refine lv_istore_n (lv' := [(2, .int 0), (0, .ref (b + 0)), (1, .int (nI n))]) hx hb dX4_advise_21 rfl hl (by decide) rfl (fun ls hl => ?_)
  refine lv_iconst (v := 0) hx hb dX4_advise_22 (by decide) ?_
  refine lv_istore_n (lv' := [(3, .int 0), (2, .int 0), (0, .ref (b + 0)), (1, .int (nI n))]) hx hb dX4_advise_23 rfl hl (by decide) rfl (fun ls hl => ?_)
  refine lv_iconst (v := 0) hx hb dX4_advise_24 (by decide) ?_
  refine lv_istore (lv' := [(4, .int 0), (3, .int 0), (2, .int 0), (0, .ref (b + 0)), (1, .int (nI n))]) hx hb dX4_advise_25 hl (by decide) rfl (fun ls hl => ?_)
  refine w_loop (σ := S2 × Nat × Int32) (16) (fun i x9 => (x9.1, x9.2.1, x9.2.2) = f_adv g nb np n i) (fun i x9 => x9.1) (fun i x9 => [(0, .ref (b + 0)), (1, .int (nI n)), (2, .int (nI x9.2.1)), (3, .int (x9.2.2)), (4, .int (nI i))]) 0 (g, 0, 0) (Nat.zero_le _) rfl hW hS (lv_sub hl [3, 4, 2, 1, 0] rfl) ?_
  clear hW hS hl
  intro i x9 H locs ls hi_i hI hW hS hl ih_i
  obtain ⟨gi, best, few⟩ := x9
  replace hl : lv_has ls 6 [(0, .ref (b + 0)), (1, .int (nI n)), (2, .int (nI best)), (3, .int few), (4, .int (nI i))] := hl
  replace hI : (gi, best, few) = f_adv g nb np n i := hI
  replace hW : wd X b gi w H := hW
  have hgi : gi = (f_adv g nb np n i).1 := congrArg Prod.fst hI
  obtain ⟨hkp, hN1⟩ := adv_ok (mm := n) h hN i
  rw [← hgi] at hkp hN1
  have hk1 : OkL 1 nb np gi := hkp.ok h
  refine lv_iload hx hb dX4_advise_27 (lv_at hl 4 rfl) ?_
  refine lv_bipush (v := 15) hx hb dX4_advise_29 (by decide) ?_
  refine lv_icmp_gt (tgt := 94) hx hb dX4_advise_31 (by decide) (fun c_2 => ?_) (fun c_2 => ?_)
  · have hin := br_lt (show (15 : Int32) = nI 15 from rfl) rfl (by omega) (by omega) c_2
    obtain rfl : 16 = i := by omega
    refine lv_iload_n hx hb dX4_advise_94 rfl (lv_at hl 2 rfl) ?_
    exact W.iret (v := nI best) hx hb hr (fun t9 ht9 _ => ⟨⟨nI best, gi, rfl, ⟨(by rw [← hI]), (by rw [← hI])⟩, by show wd X b _ w t9.heap; rw [ht9]; exact hW⟩, hS.F ht9⟩) hS.2.2 dX4_advise_95
  · have hlt : i < 16 := by have := br_nlt (show (15 : Int32) = nI 15 from rfl) rfl (by omega) (by omega) c_2; omega
    refine lv_aload_n hx hb dX4_advise_34 rfl (lv_at hl 0 rfl) ?_
    refine w_get hx hb hts inX4 hown hK hW (by decide) (Ent_0) rfl 1 (by decide) q_461 (fun _ h => h) rfl dX4_advise_35 ?_
    refine lv_aload_n hx hb dX4_advise_38 rfl (lv_at hl 0 rfl) ?_
    refine w_get hx hb hts inX4 hown hK hW (by decide) (Ent_0) rfl 0 (by decide) q_460 (fun _ h => h) rfl dX4_advise_39 ?_
    refine k_v (c_V0 ⟨hx, hb, hml, hown, hts⟩ (metX1_copyFrom l X b w gi (t := 71) (o := 1) (nb := nb) (np := np) LL71 hk1) hK hW (ltL (Or.inr rfl)) (Ent_L (Or.inr rfl)) rfl q_277 q_278 q_279 q_2 q_280 hX1_copyFrom ⟨Nat.le_of_ble_eq_true rfl, Nat.le_of_ble_eq_true rfl, rfl, rfl⟩ rfl dX4_advise_42 rfl hl.1 (Nat.le_of_ble_eq_true rfl) ⟨Nat.le_of_ble_eq_true rfl, Nat.le_of_ble_eq_true rfl⟩) hS (fun g_3 H locs hp hW hS => ?_)
    have ht1 : OkL 71 nb np g_3 := by rw [hp]; exact okl_copy LL71 hk1 hN1
    have hcp : g_3 = f_copy gi 71 1 nb np := hp
    refine lv_aload_n hx hb dX4_advise_45 rfl (lv_at hl 0 rfl) ?_
    refine w_get hx hb hts inX4 hown hK hW (by decide) (Ent_0) rfl 1 (by decide) q_461 (fun _ h => h) rfl dX4_advise_46 ?_
    refine lv_iload hx hb dX4_advise_49 (lv_at hl 4 rfl) ?_
    refine w_put hx hb hts inX1 tyX1 tyX1_ok nmX1 hown hK hW hS (ltL (Or.inr rfl)) (Ent_L (Or.inr rfl)) rfl 6 (by decide) q_444 (fun _ h => h) rfl rfl rfl (Nat.le_of_ble_eq_true rfl) (setL (Or.inr rfl) (by decide) (by decide)) dX4_advise_51 (fun H locs hW hS => ?_)
    obtain ⟨gh, egh⟩ : ∃ z, z = (u2 g_3 71 6 (nI i)) := ⟨_, rfl⟩
    replace hW : wd X b gh w H := by rw [egh]; exact hW
    replace ht1 : OkL 71 nb np gh := by rw [egh]; exact OkL.L ht1 (by decide)
    refine lv_aload_n hx hb dX4_advise_54 rfl (lv_at hl 0 rfl) ?_
    refine w_get hx hb hts inX4 hown hK hW (by decide) (Ent_0) rfl 1 (by decide) q_461 (fun _ h => h) rfl dX4_advise_55 ?_
    refine lv_iload_n hx hb dX4_advise_58 rfl (lv_at hl 1 rfl) ?_
    refine k_v (c_V0 ⟨hx, hb, hml, hown, hts⟩ (metX1_passMinutes l X b w gh (o := 71) (Or.inr rfl) ht1 n hn) hK hW (ltL (Or.inr rfl)) (Ent_L (Or.inr rfl)) rfl q_231 q_232 q_233 q_2 q_234 hX1_passMinutes ⟨Nat.le_of_ble_eq_true rfl, Nat.le_of_ble_eq_true rfl, rfl, rfl⟩ rfl dX4_advise_59 rfl hl.1 (Nat.le_of_ble_eq_true rfl) ⟨Nat.le_of_ble_eq_true rfl, Nat.le_of_ble_eq_true rfl⟩) hS (fun g_4 H locs hp hW hS => ?_)
    have h_2 : OkL 71 nb np g_4 := by rw [hp]; exact okl_mins ht1 _
    have hmm : f_mins (u2 (f_copy gi 71 1 nb np) 71 6 (nI i)) 71 nb np n = g_4 := by rw [hp, egh, hcp]
    refine lv_aload_n hx hb dX4_advise_62 rfl (lv_at hl 0 rfl) ?_
    refine w_get hx hb hts inX4 hown hK hW (by decide) (Ent_0) rfl 1 (by decide) q_461 (fun _ h => h) rfl dX4_advise_63 ?_
    refine k_R (c_V0 ⟨hx, hb, hml, hown, hts⟩ (metX1_allWaited l X b w g_4 (o := 71) (Or.inr rfl) h_2) hK hW (ltL (Or.inr rfl)) (Ent_L (Or.inr rfl)) rfl q_299 q_214 q_215 q_2 q_216 hX1_allWaited ⟨Nat.le_of_ble_eq_true rfl, Nat.le_of_ble_eq_true rfl, rfl, rfl⟩ rfl dX4_advise_66 rfl hl.1 (Nat.le_of_ble_eq_true rfl) ⟨Nat.le_of_ble_eq_true rfl, Nat.le_of_ble_eq_true rfl⟩) ?_
    refine lv_istore (lv' := [(5, .int (sumF (fun q => g_4 (71 + 20 + q) 5) np)), (0, .ref (b + 0)), (1, .int (nI n)), (2, .int (nI best)), (3, .int few), (4, .int (nI i))]) hx hb dX4_advise_69 hl (by decide) rfl (fun ls hl => ?_)
    refine lv_iload hx hb dX4_advise_71 (lv_at hl 5 rfl) ?_
    refine lv_if_eq (tgt := 82) hx hb dX4_advise_73 (by decide) (fun c_5 => ?_) (fun c_5 => ?_)
    · have hi0 : i = 0 := by rcases Nat.eq_zero_or_pos i with q | q; exact q; exact absurd c_5 (nI_ne0 q (by omega))
      refine lv_iload hx hb dX4_advise_82 (lv_at hl 5 rfl) ?_
      refine lv_istore_n (lv' := [(2, .int (nI i)), (5, .int (sumF (fun q => g_4 (71 + 20 + q) 5) np)), (0, .ref (b + 0)), (1, .int (nI n)), (3, .int few), (4, .int (nI i))]) hx hb dX4_advise_84 rfl hl (by decide) rfl (fun ls hl => ?_)
      refine lv_iload hx hb dX4_advise_85 (lv_at hl 1 rfl) ?_
      refine lv_istore_n (lv' := [(3, .int (sumF (fun q => g_4 (71 + 20 + q) 5) np)), (2, .int (nI i)), (5, .int (sumF (fun q => g_4 (71 + 20 + q) 5) np)), (0, .ref (b + 0)), (1, .int (nI n)), (4, .int (nI i))]) hx hb dX4_advise_87 rfl hl (by decide) rfl (fun ls hl => ?_)
      refine lv_iinc (v := nI (i + 1)) (lv' := [(4, .int (nI (i + 1))), (3, .int (sumF (fun q => g_4 (71 + 20 + q) 5) np)), (2, .int (nI i)), (5, .int (sumF (fun q => g_4 (71 + 20 + q) 5) np)), (0, .ref (b + 0)), (1, .int (nI n))]) hx hb dX4_advise_88 hl (k := 5) rfl ((by rw [← nI_1]; rfl)) (by decide) rfl (fun ls hl => ?_)
      refine lv_goto (tgt := 27) hx hb dX4_advise_91 (by decide) ?_
      exact ih_i hlt (g_4, i, sumF (fun q => g_4 (71 + 20 + q) 5) np) _ _ _ (by show (g_4, i, sumF (fun q => g_4 (71 + 20 + q) 5) np) = f_adv1 nb np n i (f_adv g nb np n i); rw [← hI]; unfold f_adv1; dsimp only; rw [hmm] at *; rw [if_pos (Or.inl hi0)]) hW hS (lv_sub hl [4, 5, 2, 1, 0] rfl)
    · have hi0 : ¬ i = 0 := fun q => c_5 (by rw [q]; rfl)
      refine lv_iload hx hb dX4_advise_76 (lv_at hl 0 rfl) ?_
      refine lv_iload_n hx hb dX4_advise_78 rfl (lv_at hl 4 rfl) ?_
      refine lv_icmp_ge (tgt := 88) hx hb dX4_advise_79 (by decide) (fun c_6 => ?_) (fun c_6 => ?_)
      · refine lv_iinc (v := nI (i + 1)) (lv' := [(4, .int (nI (i + 1))), (5, .int (sumF (fun q => g_4 (71 + 20 + q) 5) np)), (0, .ref (b + 0)), (1, .int (nI n)), (2, .int (nI best)), (3, .int few)]) hx hb dX4_advise_88 hl (k := 5) rfl ((by rw [← nI_1]; rfl)) (by decide) rfl (fun ls hl => ?_)
        refine lv_goto (tgt := 27) hx hb dX4_advise_91 (by decide) ?_
        exact ih_i hlt (g_4, best, few) _ _ _ (by show (g_4, best, few) = f_adv1 nb np n i (f_adv g nb np n i); rw [← hI]; unfold f_adv1; dsimp only; rw [hmm] at *; rw [if_neg (fun z => z.elim hi0 (Int32.not_lt.mpr c_6))]) hW hS (lv_sub hl [2, 3, 4, 5, 0] rfl)
      · refine lv_iload hx hb dX4_advise_82 (lv_at hl 5 rfl) ?_
        refine lv_istore_n (lv' := [(2, .int (nI i)), (5, .int (sumF (fun q => g_4 (71 + 20 + q) 5) np)), (0, .ref (b + 0)), (1, .int (nI n)), (3, .int few), (4, .int (nI i))]) hx hb dX4_advise_84 rfl hl (by decide) rfl (fun ls hl => ?_)
        refine lv_iload hx hb dX4_advise_85 (lv_at hl 1 rfl) ?_
        refine lv_istore_n (lv' := [(3, .int (sumF (fun q => g_4 (71 + 20 + q) 5) np)), (2, .int (nI i)), (5, .int (sumF (fun q => g_4 (71 + 20 + q) 5) np)), (0, .ref (b + 0)), (1, .int (nI n)), (4, .int (nI i))]) hx hb dX4_advise_87 rfl hl (by decide) rfl (fun ls hl => ?_)
        refine lv_iinc (v := nI (i + 1)) (lv' := [(4, .int (nI (i + 1))), (3, .int (sumF (fun q => g_4 (71 + 20 + q) 5) np)), (2, .int (nI i)), (5, .int (sumF (fun q => g_4 (71 + 20 + q) 5) np)), (0, .ref (b + 0)), (1, .int (nI n))]) hx hb dX4_advise_88 hl (k := 5) rfl ((by rw [← nI_1]; rfl)) (by decide) rfl (fun ls hl => ?_)
        refine lv_goto (tgt := 27) hx hb dX4_advise_91 (by decide) ?_
        exact ih_i hlt (g_4, i, sumF (fun q => g_4 (71 + 20 + q) 5) np) _ _ _ (by show (g_4, i, sumF (fun q => g_4 (71 + 20 + q) 5) np) = f_adv1 nb np n i (f_adv g nb np n i); rw [← hI]; unfold f_adv1; dsimp only; rw [hmm] at *; rw [if_pos (Or.inr (Int32.not_le.mp c_6))]) hW hS (lv_sub hl [4, 5, 2, 1, 0] rfl)

/-- arrives: behind k minutes of the trial -/
def f_arrP (g0 g1 : S2) (nb np p : Nat) (r : Int32) : Prop := ∃ k, k ≤ 200 ∧ (∀ j, j < k → ¬ f_mins g0 71 nb np j (71 + 20 + p) 0 = 2) ∧ g1 = f_mins g0 71 nb np k ∧ ((f_mins g0 71 nb np k (71 + 20 + p) 0 = 2 ∧ r = nI k) ∨ (k = 200 ∧ ¬ f_mins g0 71 nb np k (71 + 20 + p) 0 = 2 ∧ r = -1))

set_option maxHeartbeats 1000000 in
set_option maxRecDepth 100000 in
theorem mnX4_arrives (l : Launch) (X : CX) (b : Nat) (w : Int64) (g : S2) {nb np : Nat} (h : OkL 1 nb np g) (hN : NumT g) {q : Nat} (hq : q < np) : Met l yX4_arrives (wsg yX4_arrives cX4_arrives 4 (some .int)) ({ frames := 6, cells := 0, slots := 0, locals := 116 }) (Pre X b g w [.ref (b + 0), .int (nI q)]) (Qi X b w (fun (r : Int32) (g1 : S2) => f_arrP (f_copy g 71 1 nb np) g1 nb np q r)) 0 0 (AA b) := by
  refine Met.ofW (cc := cX4_arrives) (maxL := 4) (ret := (some .int)) (by decide) rfl ?_
  intro p e s m args below meth c s₁ Bo hml hv
  obtain ⟨rfl, hW, hK⟩ := hv
  have hx := Bo.exec
  have hb := Bo.bytes
  have hr := Bo.returns
  have hts := hts_of (atoms_spec (ws := wsg yX4_arrives cX4_arrives 4 (some .int)) Bo.pre)
  have hown : s.vm.findClass RX4 = some m.cls := findClass_of_methodNamed Bo.named
  have hlocks := Bo.notSynchronized
  have hS : va_S (AA b) s.heap s.heap [] := va_S.rf
  have hl := lv_entry ([.ref (b + 0), .int (nI q)]) (n := 4) (Nat.le_of_ble_eq_true rfl)
  rw [lg_entry_eq]
  generalize (lg_sl ([.ref (b + 0), .int (nI q)]) ++ List.replicate (4 - (lg_sl ([.ref (b + 0), .int (nI q)])).length) Slot.unset).toArray = ls at hl ⊢
  have hl : lv_has ls 4 [(0, .ref (b + 0)), (1, .int (nI q))] := hl
  obtain ⟨⟨h3, hnb⟩, ⟨h4, hnp⟩, hnum, hbus, hpas⟩ := id h
  have hq50 : q < 50 := by omega
  refine lv_aload_n hx hb dX4_arrives_0 rfl (lv_at hl 0 rfl) ?_
  refine lv_iload_n hx hb dX4_arrives_1 rfl (lv_at hl 1 rfl) ?_
  refine k_R (c_V0 ⟨hx, hb, hml, hown, hts⟩ (metX4_isPassenger l X b w g (nI q)) hK hW (by decide) (Ent_0) rfl q_165 q_167 qs_1 q_1 q_169 hX4_isPassenger ⟨Nat.le_of_ble_eq_true rfl, Nat.le_of_ble_eq_true rfl, rfl, rfl⟩ rfl dX4_arrives_2 rfl hl.1 (Nat.le_of_ble_eq_true rfl) ⟨Nat.le_of_ble_eq_true rfl, Nat.le_of_ble_eq_true rfl⟩) ?_
  refine lv_if_ne (tgt := 18) hx hb dX4_arrives_5 (by decide) (fun c_1 => ?_) (fun c_1 => False.elim ((f_inC h4 hq (by omega)) c_1))
  refine lv_aload_n hx hb dX4_arrives_18 rfl (lv_at hl 0 rfl) ?_
  refine w_get hx hb hts inX4 hown hK hW (by decide) (Ent_0) rfl 1 (by decide) q_461 (fun _ h => h) rfl dX4_arrives_19 ?_
  refine lv_aload_n hx hb dX4_arrives_22 rfl (lv_at hl 0 rfl) ?_
  refine w_get hx hb hts inX4 hown hK hW (by decide) (Ent_0) rfl 0 (by decide) q_460 (fun _ h => h) rfl dX4_arrives_23 ?_
  refine k_v (c_V0 ⟨hx, hb, hml, hown, hts⟩ (metX1_copyFrom l X b w g (t := 71) (o := 1) (nb := nb) (np := np) LL71 h) hK hW (ltL (Or.inr rfl)) (Ent_L (Or.inr rfl)) rfl q_277 q_278 q_279 q_2 q_280 hX1_copyFrom ⟨Nat.le_of_ble_eq_true rfl, Nat.le_of_ble_eq_true rfl, rfl, rfl⟩ rfl dX4_arrives_26 rfl hl.1 (Nat.le_of_ble_eq_true rfl) ⟨Nat.le_of_ble_eq_true rfl, Nat.le_of_ble_eq_true rfl⟩) hS (fun g_2 H locs hp hW hS => ?_)
  have ht1 : OkL 71 nb np g_2 := by rw [hp]; exact okl_copy LL71 h hN
  have hcp : g_2 = f_copy g 71 1 nb np := hp
  obtain ⟨ga, ega⟩ : ∃ z, z = g_2 := ⟨_, rfl⟩
  rw [← ega] at hW ht1 hcp
  refine lv_aload_n hx hb dX4_arrives_29 rfl (lv_at hl 0 rfl) ?_
  refine w_get hx hb hts inX4 hown hK hW (by decide) (Ent_0) rfl 1 (by decide) q_461 (fun _ h => h) rfl dX4_arrives_30 ?_
  refine w_get hx hb hts inX1 hown hK hW (ltL (Or.inr rfl)) (Ent_L (Or.inr rfl)) rfl 2 (by decide) q_436 (fun _ h => h) rfl dX4_arrives_33 ?_
  refine lv_iload_n hx hb dX4_arrives_36 rfl (lv_at hl 1 rfl) ?_
  refine w_aldP hx hb hK hW (Or.inr rfl) q rfl (hq50) dX4_arrives_37 ?_
  refine lv_astore_n (lv' := [(2, .ref (b + (71 + 20 + q))), (0, .ref (b + 0)), (1, .int (nI q))]) hx hb dX4_arrives_38 rfl hl (by decide) rfl (fun ls hl => ?_)
  refine lv_iconst (v := 0) hx hb dX4_arrives_39 (by decide) ?_
  refine lv_istore_n (lv' := [(3, .int 0), (2, .ref (b + (71 + 20 + q))), (0, .ref (b + 0)), (1, .int (nI q))]) hx hb dX4_arrives_40 rfl hl (by decide) rfl (fun ls hl => ?_)
  refine w_loop (σ := S2) (200) (fun i x9 => x9 = f_mins ga 71 nb np i ∧ ∀ j, j < i → ¬ f_mins ga 71 nb np j (71 + 20 + q) 0 = 2) (fun i x9 => x9) (fun i x9 => [(0, .ref (b + 0)), (1, .int (nI q)), (2, .ref (b + (71 + 20 + q))), (3, .int (nI i))]) 0 (ga) (Nat.zero_le _) ⟨rfl, fun j hj => by omega⟩ hW hS (lv_sub hl [2, 3, 1, 0] rfl) ?_
  clear hW hS hl
  intro i gi H locs ls hi_i hI hW hS hl ih_i
  replace hl : lv_has ls 4 [(0, .ref (b + 0)), (1, .int (nI q)), (2, .ref (b + (71 + 20 + q))), (3, .int (nI i))] := hl
  replace hI : gi = f_mins ga 71 nb np i ∧ ∀ j, j < i → ¬ f_mins ga 71 nb np j (71 + 20 + q) 0 = 2 := hI
  replace hW : wd X b gi w H := hW
  have h_2 : OkL 71 nb np gi := by rw [hI.1]; exact okl_mins ht1 i
  refine lv_iload_n hx hb dX4_arrives_41 rfl (lv_at hl 3 rfl) ?_
  refine lv_sipush (v := 200) hx hb dX4_arrives_42 (by decide) ?_
  refine lv_icmp_ge (tgt := 71) hx hb dX4_arrives_45 (by decide) (fun c_3 => ?_) (fun c_3 => ?_)
  · have hin := br_le (show (200 : Int32) = nI 200 from rfl) rfl (by omega) (by omega) c_3
    obtain rfl : 200 = i := by omega
    refine lv_aload_n hx hb dX4_arrives_71 rfl (lv_at hl 2 rfl) ?_
    refine w_get hx hb hts inX2 hown hK hW (ltP (isP_of (Or.inr rfl) hq50)) (Ent_P (isP_of (Or.inr rfl) hq50)) rfl 0 (by decide) q_400 (fun _ h => h) rfl dX4_arrives_72 ?_
    refine lv_iconst (v := 2) hx hb dX4_arrives_75 (by decide) ?_
    refine lv_icmp_ne (tgt := 85) hx hb dX4_arrives_76 (by decide) (fun c_4 => ?_) (fun c_4 => ?_)
    · refine lv_iconst (v := -1) hx hb dX4_arrives_85 (by decide) ?_
      exact W.iret (v := (-1)) hx hb hr (fun t9 ht9 _ => ⟨⟨(-1), gi, rfl, (by rw [← hcp]; exact ⟨200, hi_i, hI.2, hI.1, Or.inr ⟨rfl, by rw [← hI.1]; exact c_4, rfl⟩⟩), by show wd X b _ w t9.heap; rw [ht9]; exact hW⟩, hS.F ht9⟩) hS.2.2 dX4_arrives_86
    · refine lv_sipush (v := 200) hx hb dX4_arrives_79 (by decide) ?_
      refine lv_goto (tgt := 86) hx hb dX4_arrives_82 (by decide) ?_
      exact W.iret (v := 200) hx hb hr (fun t9 ht9 _ => ⟨⟨200, gi, rfl, (by rw [← hcp]; exact ⟨200, hi_i, hI.2, hI.1, Or.inl ⟨by rw [← hI.1]; exact c_4, rfl⟩⟩), by show wd X b _ w t9.heap; rw [ht9]; exact hW⟩, hS.F ht9⟩) hS.2.2 dX4_arrives_86
  · have hlt : i < 200 := br_nle (show (200 : Int32) = nI 200 from rfl) rfl (by omega) (by omega) c_3
    refine lv_aload_n hx hb dX4_arrives_48 rfl (lv_at hl 2 rfl) ?_
    refine w_get hx hb hts inX2 hown hK hW (ltP (isP_of (Or.inr rfl) hq50)) (Ent_P (isP_of (Or.inr rfl) hq50)) rfl 0 (by decide) q_400 (fun _ h => h) rfl dX4_arrives_49 ?_
    refine lv_iconst (v := 2) hx hb dX4_arrives_52 (by decide) ?_
    refine lv_icmp_ne (tgt := 58) hx hb dX4_arrives_53 (by decide) (fun c_5 => ?_) (fun c_5 => ?_)
    · refine lv_aload_n hx hb dX4_arrives_58 rfl (lv_at hl 0 rfl) ?_
      refine w_get hx hb hts inX4 hown hK hW (by decide) (Ent_0) rfl 1 (by decide) q_461 (fun _ h => h) rfl dX4_arrives_59 ?_
      refine k_v (c_V0 ⟨hx, hb, hml, hown, hts⟩ (metX1_passMinute l X b w gi (o := 71) (Or.inr rfl) h_2) hK hW (ltL (Or.inr rfl)) (Ent_L (Or.inr rfl)) rfl q_293 q_236 q_237 q_2 q_238 hX1_passMinute ⟨Nat.le_of_ble_eq_true rfl, Nat.le_of_ble_eq_true rfl, rfl, rfl⟩ rfl dX4_arrives_62 rfl hl.1 (Nat.le_of_ble_eq_true rfl) ⟨Nat.le_of_ble_eq_true rfl, Nat.le_of_ble_eq_true rfl⟩) hS (fun g_6 H locs hp hW hS => ?_)
      refine lv_iinc (v := nI (i + 1)) (lv' := [(3, .int (nI (i + 1))), (0, .ref (b + 0)), (1, .int (nI q)), (2, .ref (b + (71 + 20 + q)))]) hx hb dX4_arrives_65 hl (k := 3) rfl ((by rw [← nI_1]; rfl)) (by decide) rfl (fun ls hl => ?_)
      refine lv_goto (tgt := 41) hx hb dX4_arrives_68 (by decide) ?_
      exact ih_i hlt (g_6) _ _ _ (⟨(by show g_6 = f_min (f_mins ga 71 nb np i) 71 nb np; rw [← hI.1, hp]), fun j hj => (by rcases Nat.lt_or_ge j i with z | z; exact hI.2 j z; rw [show j = i by omega, ← hI.1]; exact c_5)⟩) hW hS (lv_sub hl [1, 2, 3, 0] rfl)
    · refine lv_iload_n hx hb dX4_arrives_56 rfl (lv_at hl 3 rfl) ?_
      exact W.iret (v := nI i) hx hb hr (fun t9 ht9 _ => ⟨⟨nI i, gi, rfl, (by rw [← hcp]; exact ⟨i, hi_i, hI.2, hI.1, Or.inl ⟨by rw [← hI.1]; exact c_5, rfl⟩⟩), by show wd X b _ w t9.heap; rw [ht9]; exact hW⟩, hS.F ht9⟩) hS.2.2 dX4_arrives_57
end
section
set_option maxHeartbeats 1000000 in
set_option maxRecDepth 100000 in
theorem metX4_digest (l : Launch) (X : CX) (b : Nat) (w : Int64) (g : S2) {nb np : Nat} (h : OkL 1 nb np g) : Met l yX4_digest (wsg yX4_digest cX4_digest 5 (some .long)) ({ frames := 3, cells := 0, slots := 0, locals := 66 }) (Pre X b g w [.ref (b + 0)]) (QRL (f_dig g nb np)) 0 0 NO := by
  refine Met.ofW (cc := cX4_digest) (maxL := 5) (ret := (some .long)) (by decide) rfl ?_
  intro p e s m args below meth c s₁ Bo hml hv
  obtain ⟨rfl, hW, hK⟩ := hv
  have hx := Bo.exec
  have hb := Bo.bytes
  have hr := Bo.returns
  have hts := hts_of (atoms_spec (ws := wsg yX4_digest cX4_digest 5 (some .long)) Bo.pre)
  have hown : s.vm.findClass RX4 = some m.cls := findClass_of_methodNamed Bo.named
  have hlocks := Bo.notSynchronized
  have hl := lv_entry ([.ref (b + 0)]) (n := 5) (Nat.le_of_ble_eq_true rfl)
  rw [lg_entry_eq]
  generalize (lg_sl ([.ref (b + 0)]) ++ List.replicate (5 - (lg_sl ([.ref (b + 0)])).length) Slot.unset).toArray = ls at hl ⊢
  have hl : lv_has ls 5 [(0, .ref (b + 0))] := hl
  obtain ⟨⟨h3, hnb⟩, ⟨h4, hnp⟩, hnum, hbus, hpas⟩ := id h
  refine lv_ldc2 hx hb hown (hts _ q_309) dX4_digest_0 ?_
  refine lv_lstore_n (lv' := [(1, .long 1039), (0, .ref (b + 0))]) hx hb dX4_digest_3 rfl hl (by decide) rfl (fun ls hl => ?_)
  refine lv_iconst (v := 0) hx hb dX4_digest_4 (by decide) ?_
  refine lv_istore_n (lv' := [(3, .int 0), (1, .long 1039), (0, .ref (b + 0))]) hx hb dX4_digest_5 rfl hl (by decide) rfl (fun ls hl => ?_)
  refine w_loopR (σ := Int64) (10) (fun i x9 => x9 = dig1 1039 (f_tellC g 1 nb np) i) (fun i x9 => [(0, .ref (b + 0)), (1, .long (x9)), (3, .int (nI i))]) 0 (1039) (Nat.zero_le _) dig1_0.symm (lv_sub hl [2, 1, 0] rfl) ?_
  clear hl
  intro i sm ls hi_i hI hl ih_i
  replace hl : lv_has ls 5 [(0, .ref (b + 0)), (1, .long sm), (3, .int (nI i))] := hl
  replace hI : sm = dig1 1039 (f_tellC g 1 nb np) i := hI
  refine lv_iload_n hx hb dX4_digest_6 rfl (lv_at hl 2 rfl) ?_
  refine lv_bipush (v := 10) hx hb dX4_digest_7 (by decide) ?_
  refine lv_icmp_ge (tgt := 34) hx hb dX4_digest_9 (by decide) (fun c_1 => ?_) (fun c_1 => ?_)
  · have hin := br_le (show (10 : Int32) = nI 10 from rfl) rfl (by omega) (by omega) c_1
    obtain rfl : 10 = i := by omega
    obtain ⟨z1, ez1⟩ : ∃ z, z = dig1 1039 (f_tellC g 1 nb np) 10 := ⟨_, rfl⟩
    rw [← ez1] at hI
    refine lv_iconst (v := 0) hx hb dX4_digest_34 (by decide) ?_
    refine lv_istore_n (lv' := [(3, .int 0), (0, .ref (b + 0)), (1, .long sm)]) hx hb dX4_digest_35 rfl hl (by decide) rfl (fun ls hl => ?_)
    refine w_loopR (σ := Int64) (10) (fun i x9 => x9 = dig2 z1 (f_tellS g 1 nb np) 5 i) (fun i x9 => [(0, .ref (b + 0)), (1, .long (x9)), (3, .int (nI i))]) 0 (sm) (Nat.zero_le _) (hI.trans dig2_0.symm) (lv_sub hl [1, 2, 0] rfl) ?_
    clear hl
    intro i sm ls hi_i hI hl ih_i
    replace hl : lv_has ls 5 [(0, .ref (b + 0)), (1, .long sm), (3, .int (nI i))] := hl
    replace hI : sm = dig2 z1 (f_tellS g 1 nb np) 5 i := hI
    refine lv_iload_n hx hb dX4_digest_36 rfl (lv_at hl 2 rfl) ?_
    refine lv_bipush (v := 10) hx hb dX4_digest_37 (by decide) ?_
    refine lv_icmp_ge (tgt := 81) hx hb dX4_digest_39 (by decide) (fun c_2 => ?_) (fun c_2 => ?_)
    · have hin := br_le (show (10 : Int32) = nI 10 from rfl) rfl (by omega) (by omega) c_2
      obtain rfl : 10 = i := by omega
      obtain ⟨z2, ez2⟩ : ∃ z, z = dig2 z1 (f_tellS g 1 nb np) 5 10 := ⟨_, rfl⟩
      rw [← ez2] at hI
      refine lv_iconst (v := 0) hx hb dX4_digest_81 (by decide) ?_
      refine lv_istore_n (lv' := [(3, .int 0), (0, .ref (b + 0)), (1, .long sm)]) hx hb dX4_digest_82 rfl hl (by decide) rfl (fun ls hl => ?_)
      refine w_loopR (σ := Int64) (nb) (fun i x9 => x9 = dig2 z2 (fun j k => g (1 + 14 + j) (k + 1)) 6 i) (fun i x9 => [(0, .ref (b + 0)), (1, .long (x9)), (3, .int (nI i))]) 0 (sm) (Nat.zero_le _) (hI.trans dig2_0.symm) (lv_sub hl [1, 2, 0] rfl) ?_
      clear hl
      intro i sm ls hi_i hI hl ih_i
      replace hl : lv_has ls 5 [(0, .ref (b + 0)), (1, .long sm), (3, .int (nI i))] := hl
      replace hI : sm = dig2 z2 (fun j k => g (1 + 14 + j) (k + 1)) 6 i := hI
      refine lv_iload_n hx hb dX4_digest_83 rfl (lv_at hl 2 rfl) ?_
      refine lv_aload_n hx hb dX4_digest_84 rfl (lv_at hl 0 rfl) ?_
      refine w_get hx hb hts inX4 hown hK hW (by decide) (Ent_0) rfl 0 (by decide) q_460 (fun _ h => h) rfl dX4_digest_85 ?_
      refine w_get hx hb hts inX1 hown hK hW (ltL (Or.inl rfl)) (Ent_L (Or.inl rfl)) rfl 3 (by decide) q_438 (fun _ h => h) rfl dX4_digest_88 ?_
      refine lv_icmp_ge (tgt := 138) hx hb dX4_digest_91 (by decide) (fun c_3 => ?_) (fun c_3 => ?_)
      · have hin := br_le h3 rfl (by omega) (by omega) c_3
        obtain rfl : nb = i := by omega
        obtain ⟨z3, ez3⟩ : ∃ z, z = dig2 z2 (fun j k => g (1 + 14 + j) (k + 1)) 6 nb := ⟨_, rfl⟩
        rw [← ez3] at hI
        refine lv_iconst (v := 0) hx hb dX4_digest_138 (by decide) ?_
        refine lv_istore_n (lv' := [(3, .int 0), (0, .ref (b + 0)), (1, .long sm)]) hx hb dX4_digest_139 rfl hl (by decide) rfl (fun ls hl => ?_)
        refine w_loopR (σ := Int64) (np) (fun i x9 => x9 = dig2 z3 (fun p k => g (1 + 20 + p) (k + 0)) 7 i) (fun i x9 => [(0, .ref (b + 0)), (1, .long (x9)), (3, .int (nI i))]) 0 (sm) (Nat.zero_le _) (hI.trans dig2_0.symm) (lv_sub hl [1, 2, 0] rfl) ?_
        clear hl
        intro i sm ls hi_i hI hl ih_i
        replace hl : lv_has ls 5 [(0, .ref (b + 0)), (1, .long sm), (3, .int (nI i))] := hl
        replace hI : sm = dig2 z3 (fun p k => g (1 + 20 + p) (k + 0)) 7 i := hI
        refine lv_iload_n hx hb dX4_digest_140 rfl (lv_at hl 2 rfl) ?_
        refine lv_aload_n hx hb dX4_digest_141 rfl (lv_at hl 0 rfl) ?_
        refine w_get hx hb hts inX4 hown hK hW (by decide) (Ent_0) rfl 0 (by decide) q_460 (fun _ h => h) rfl dX4_digest_142 ?_
        refine w_get hx hb hts inX1 hown hK hW (ltL (Or.inl rfl)) (Ent_L (Or.inl rfl)) rfl 4 (by decide) q_440 (fun _ h => h) rfl dX4_digest_145 ?_
        refine lv_icmp_ge (tgt := 195) hx hb dX4_digest_148 (by decide) (fun c_4 => ?_) (fun c_4 => ?_)
        · have hin := br_le h4 rfl (by omega) (by omega) c_4
          obtain rfl : np = i := by omega
          refine lv_lload_n hx hb dX4_digest_195 rfl (lv_at hl 1 rfl) ?_
          exact W.lret (v := sm) hx hb hr (fun t9 ht9 _ => ⟨congrArg (fun z => Outcome.returned (some (Value.long z))) (by unfold f_dig; rw [← ez1, ← ez2, ← ez3]; exact hI), ht9⟩) (fun q hq => absurd hq List.not_mem_nil) dX4_digest_196
        · have hlt := br_nle h4 rfl (by omega) (by omega) c_4
          refine lv_iconst (v := 0) hx hb dX4_digest_151 (by decide) ?_
          refine lv_istore (lv' := [(4, .int 0), (0, .ref (b + 0)), (1, .long sm), (3, .int (nI i))]) hx hb dX4_digest_152 hl (by decide) rfl (fun ls hl => ?_)
          refine w_loopR (σ := Int64) (7) (fun d x9 => x9 = dig1 (dig2 z3 (fun p k => g (1 + 20 + p) (k + 0)) 7 i) ((fun p k => g (1 + 20 + p) (k + 0)) i) d) (fun d x9 => [(0, .ref (b + 0)), (1, .long (x9)), (3, .int (nI i)), (4, .int (nI d))]) 0 (sm) (Nat.zero_le _) (hI.trans dig1_0.symm) (lv_sub hl [1, 2, 3, 0] rfl) ?_
          clear hl
          intro d sn ls hi_d hI hl ih_d
          replace hl : lv_has ls 5 [(0, .ref (b + 0)), (1, .long sn), (3, .int (nI i)), (4, .int (nI d))] := hl
          replace hI : sn = dig1 (dig2 z3 (fun p k => g (1 + 20 + p) (k + 0)) 7 i) ((fun p k => g (1 + 20 + p) (k + 0)) i) d := hI
          refine lv_iload hx hb dX4_digest_154 (lv_at hl 3 rfl) ?_
          refine lv_bipush (v := 7) hx hb dX4_digest_156 (by decide) ?_
          refine lv_icmp_ge (tgt := 189) hx hb dX4_digest_158 (by decide) (fun c_5 => ?_) (fun c_5 => ?_)
          · have hin := br_le (show (7 : Int32) = nI 7 from rfl) rfl (by omega) (by omega) c_5
            rw [show d = 7 by omega] at hI
            have hJ : sn = dig2 z3 (fun p k => g (1 + 20 + p) (k + 0)) 7 (i + 1) := hI.trans dig2_s.symm
            refine lv_iinc (v := nI (i + 1)) (lv' := [(3, .int (nI (i + 1))), (0, .ref (b + 0)), (1, .long sn), (4, .int (nI d))]) hx hb dX4_digest_189 hl (k := 2) rfl ((by rw [← nI_1]; rfl)) (by decide) rfl (fun ls hl => ?_)
            refine lv_goto (tgt := 140) hx hb dX4_digest_192 (by decide) ?_
            exact ih_i hlt (sn) _ hJ (lv_sub hl [1, 2, 0] rfl)
          · have hltd : d < 7 := br_nle (show (7 : Int32) = nI 7 from rfl) rfl (by omega) (by omega) c_5
            refine lv_lload_n hx hb dX4_digest_161 rfl (lv_at hl 1 rfl) ?_
            refine lv_ldc2 hx hb hown (hts _ q_310) dX4_digest_162 ?_
            refine lv_lmul hx hb dX4_digest_165 ?_
            refine lv_aload_n hx hb dX4_digest_166 rfl (lv_at hl 0 rfl) ?_
            refine w_get hx hb hts inX4 hown hK hW (by decide) (Ent_0) rfl 0 (by decide) q_460 (fun _ h => h) rfl dX4_digest_167 ?_
            refine w_get hx hb hts inX1 hown hK hW (ltL (Or.inl rfl)) (Ent_L (Or.inl rfl)) rfl 2 (by decide) q_436 (fun _ h => h) rfl dX4_digest_170 ?_
            refine lv_iload_n hx hb dX4_digest_173 rfl (lv_at hl 2 rfl) ?_
            refine w_aldP hx hb hK hW (Or.inl rfl) i rfl (by omega) dX4_digest_174 ?_
            refine lv_iload hx hb dX4_digest_175 (lv_at hl 3 rfl) ?_
            refine k_R (c_V0 ⟨hx, hb, hml, hown, hts⟩ (metX2_tell l X b w g (isP_of (Or.inl rfl) (by omega)) d hltd) hK hW (ltP (isP_of (Or.inl rfl) (by omega))) (Ent_P (isP_of (Or.inl rfl) (by omega))) rfl q_171 q_172 q_173 q_5 q_174 hX2_tell ⟨Nat.le_of_ble_eq_true rfl, Nat.le_of_ble_eq_true rfl, rfl, rfl⟩ rfl dX4_digest_177 rfl hl.1 (Nat.le_of_ble_eq_true rfl) ⟨Nat.le_of_ble_eq_true rfl, Nat.le_of_ble_eq_true rfl⟩) ?_
            refine lv_i2l (v := (g (1 + 20 + i) (d + 0)).toInt64) hx hb dX4_digest_180 rfl ?_
            refine lv_ladd hx hb dX4_digest_181 ?_
            refine lv_lstore_n (lv' := [(1, .long ((sn * 31) + ((g (1 + 20 + i) (d + 0)).toInt64))), (0, .ref (b + 0)), (3, .int (nI i)), (4, .int (nI d))]) hx hb dX4_digest_182 rfl hl (by decide) rfl (fun ls hl => ?_)
            refine lv_iinc (v := nI (d + 1)) (lv' := [(4, .int (nI (d + 1))), (1, .long ((sn * 31) + ((g (1 + 20 + i) (d + 0)).toInt64))), (0, .ref (b + 0)), (3, .int (nI i))]) hx hb dX4_digest_183 hl (k := 3) rfl ((by rw [← nI_1]; rfl)) (by decide) rfl (fun ls hl => ?_)
            refine lv_goto (tgt := 154) hx hb dX4_digest_186 (by decide) ?_
            exact ih_d hltd ((sn * 31) + ((g (1 + 20 + i) (d + 0)).toInt64)) _ (by rw [dig1_s, ← hI]) (lv_sub hl [2, 1, 3, 0] rfl)
      · have hlt := br_nle h3 rfl (by omega) (by omega) c_3
        refine lv_iconst (v := 0) hx hb dX4_digest_94 (by decide) ?_
        refine lv_istore (lv' := [(4, .int 0), (0, .ref (b + 0)), (1, .long sm), (3, .int (nI i))]) hx hb dX4_digest_95 hl (by decide) rfl (fun ls hl => ?_)
        refine w_loopR (σ := Int64) (6) (fun d x9 => x9 = dig1 (dig2 z2 (fun j k => g (1 + 14 + j) (k + 1)) 6 i) ((fun j k => g (1 + 14 + j) (k + 1)) i) d) (fun d x9 => [(0, .ref (b + 0)), (1, .long (x9)), (3, .int (nI i)), (4, .int (nI d))]) 0 (sm) (Nat.zero_le _) (hI.trans dig1_0.symm) (lv_sub hl [1, 2, 3, 0] rfl) ?_
        clear hl
        intro d sn ls hi_d hI hl ih_d
        replace hl : lv_has ls 5 [(0, .ref (b + 0)), (1, .long sn), (3, .int (nI i)), (4, .int (nI d))] := hl
        replace hI : sn = dig1 (dig2 z2 (fun j k => g (1 + 14 + j) (k + 1)) 6 i) ((fun j k => g (1 + 14 + j) (k + 1)) i) d := hI
        refine lv_iload hx hb dX4_digest_97 (lv_at hl 3 rfl) ?_
        refine lv_bipush (v := 6) hx hb dX4_digest_99 (by decide) ?_
        refine lv_icmp_ge (tgt := 132) hx hb dX4_digest_101 (by decide) (fun c_6 => ?_) (fun c_6 => ?_)
        · have hin := br_le (show (6 : Int32) = nI 6 from rfl) rfl (by omega) (by omega) c_6
          rw [show d = 6 by omega] at hI
          have hJ : sn = dig2 z2 (fun j k => g (1 + 14 + j) (k + 1)) 6 (i + 1) := hI.trans dig2_s.symm
          refine lv_iinc (v := nI (i + 1)) (lv' := [(3, .int (nI (i + 1))), (0, .ref (b + 0)), (1, .long sn), (4, .int (nI d))]) hx hb dX4_digest_132 hl (k := 2) rfl ((by rw [← nI_1]; rfl)) (by decide) rfl (fun ls hl => ?_)
          refine lv_goto (tgt := 83) hx hb dX4_digest_135 (by decide) ?_
          exact ih_i hlt (sn) _ hJ (lv_sub hl [1, 2, 0] rfl)
        · have hltd : d < 6 := br_nle (show (6 : Int32) = nI 6 from rfl) rfl (by omega) (by omega) c_6
          refine lv_lload_n hx hb dX4_digest_104 rfl (lv_at hl 1 rfl) ?_
          refine lv_ldc2 hx hb hown (hts _ q_310) dX4_digest_105 ?_
          refine lv_lmul hx hb dX4_digest_108 ?_
          refine lv_aload_n hx hb dX4_digest_109 rfl (lv_at hl 0 rfl) ?_
          refine w_get hx hb hts inX4 hown hK hW (by decide) (Ent_0) rfl 0 (by decide) q_460 (fun _ h => h) rfl dX4_digest_110 ?_
          refine w_get hx hb hts inX1 hown hK hW (ltL (Or.inl rfl)) (Ent_L (Or.inl rfl)) rfl 1 (by decide) q_434 (fun _ h => h) rfl dX4_digest_113 ?_
          refine lv_iload_n hx hb dX4_digest_116 rfl (lv_at hl 2 rfl) ?_
          refine w_aldB hx hb hK hW (Or.inl rfl) i rfl (by omega) dX4_digest_117 ?_
          refine lv_iload hx hb dX4_digest_118 (lv_at hl 3 rfl) ?_
          refine k_R (c_V0 ⟨hx, hb, hml, hown, hts⟩ (metX0_tell l X b w g (isB_of (Or.inl rfl) (by omega)) (hbus i hlt).2 d hltd) hK hW (ltB (isB_of (Or.inl rfl) (by omega))) (Ent_B (isB_of (Or.inl rfl) (by omega))) rfl q_157 q_158 q_159 q_4 q_160 hX0_tell ⟨Nat.le_of_ble_eq_true rfl, Nat.le_of_ble_eq_true rfl, rfl, rfl⟩ rfl dX4_digest_120 rfl hl.1 (Nat.le_of_ble_eq_true rfl) ⟨Nat.le_of_ble_eq_true rfl, Nat.le_of_ble_eq_true rfl⟩) ?_
          refine lv_i2l (v := (g (1 + 14 + i) (d + 1)).toInt64) hx hb dX4_digest_123 rfl ?_
          refine lv_ladd hx hb dX4_digest_124 ?_
          refine lv_lstore_n (lv' := [(1, .long ((sn * 31) + ((g (1 + 14 + i) (d + 1)).toInt64))), (0, .ref (b + 0)), (3, .int (nI i)), (4, .int (nI d))]) hx hb dX4_digest_125 rfl hl (by decide) rfl (fun ls hl => ?_)
          refine lv_iinc (v := nI (d + 1)) (lv' := [(4, .int (nI (d + 1))), (1, .long ((sn * 31) + ((g (1 + 14 + i) (d + 1)).toInt64))), (0, .ref (b + 0)), (3, .int (nI i))]) hx hb dX4_digest_126 hl (k := 3) rfl ((by rw [← nI_1]; rfl)) (by decide) rfl (fun ls hl => ?_)
          refine lv_goto (tgt := 97) hx hb dX4_digest_129 (by decide) ?_
          exact ih_d hltd ((sn * 31) + ((g (1 + 14 + i) (d + 1)).toInt64)) _ (by rw [dig1_s, ← hI]) (lv_sub hl [2, 1, 3, 0] rfl)
    · have hlt : i < 10 := br_nle (show (10 : Int32) = nI 10 from rfl) rfl (by omega) (by omega) c_2
      refine lv_iconst (v := 0) hx hb dX4_digest_42 (by decide) ?_
      refine lv_istore (lv' := [(4, .int 0), (0, .ref (b + 0)), (1, .long sm), (3, .int (nI i))]) hx hb dX4_digest_43 hl (by decide) rfl (fun ls hl => ?_)
      refine w_loopR (σ := Int64) (5) (fun d x9 => x9 = dig1 (dig2 z1 (f_tellS g 1 nb np) 5 i) ((f_tellS g 1 nb np) i) d) (fun d x9 => [(0, .ref (b + 0)), (1, .long (x9)), (3, .int (nI i)), (4, .int (nI d))]) 0 (sm) (Nat.zero_le _) (hI.trans dig1_0.symm) (lv_sub hl [1, 2, 3, 0] rfl) ?_
      clear hl
      intro d sn ls hi_d hI hl ih_d
      replace hl : lv_has ls 5 [(0, .ref (b + 0)), (1, .long sn), (3, .int (nI i)), (4, .int (nI d))] := hl
      replace hI : sn = dig1 (dig2 z1 (f_tellS g 1 nb np) 5 i) ((f_tellS g 1 nb np) i) d := hI
      refine lv_iload hx hb dX4_digest_45 (lv_at hl 3 rfl) ?_
      refine lv_iconst (v := 5) hx hb dX4_digest_47 (by decide) ?_
      refine lv_icmp_ge (tgt := 75) hx hb dX4_digest_48 (by decide) (fun c_7 => ?_) (fun c_7 => ?_)
      · have hin := br_le (show (5 : Int32) = nI 5 from rfl) rfl (by omega) (by omega) c_7
        rw [show d = 5 by omega] at hI
        have hJ : sn = dig2 z1 (f_tellS g 1 nb np) 5 (i + 1) := hI.trans dig2_s.symm
        refine lv_iinc (v := nI (i + 1)) (lv' := [(3, .int (nI (i + 1))), (0, .ref (b + 0)), (1, .long sn), (4, .int (nI d))]) hx hb dX4_digest_75 hl (k := 2) rfl ((by rw [← nI_1]; rfl)) (by decide) rfl (fun ls hl => ?_)
        refine lv_goto (tgt := 36) hx hb dX4_digest_78 (by decide) ?_
        exact ih_i hlt (sn) _ hJ (lv_sub hl [1, 2, 0] rfl)
      · have hltd : d < 5 := br_nle (show (5 : Int32) = nI 5 from rfl) rfl (by omega) (by omega) c_7
        refine lv_lload_n hx hb dX4_digest_51 rfl (lv_at hl 1 rfl) ?_
        refine lv_ldc2 hx hb hown (hts _ q_310) dX4_digest_52 ?_
        refine lv_lmul hx hb dX4_digest_55 ?_
        refine lv_aload_n hx hb dX4_digest_56 rfl (lv_at hl 0 rfl) ?_
        refine w_get hx hb hts inX4 hown hK hW (by decide) (Ent_0) rfl 0 (by decide) q_460 (fun _ h => h) rfl dX4_digest_57 ?_
        refine lv_iload_n hx hb dX4_digest_60 rfl (lv_at hl 2 rfl) ?_
        refine lv_iload hx hb dX4_digest_61 (lv_at hl 3 rfl) ?_
        refine k_R (c_V0 ⟨hx, hb, hml, hown, hts⟩ (metX1_tellStop l X b w g (o := 1) (Or.inl rfl) h i hlt d hltd) hK hW (ltL (Or.inl rfl)) (Ent_L (Or.inl rfl)) rfl q_180 q_181 q_182 q_2 q_183 hX1_tellStop ⟨Nat.le_of_ble_eq_true rfl, Nat.le_of_ble_eq_true rfl, rfl, rfl⟩ rfl dX4_digest_63 rfl hl.1 (Nat.le_of_ble_eq_true rfl) ⟨Nat.le_of_ble_eq_true rfl, Nat.le_of_ble_eq_true rfl⟩) ?_
        refine lv_i2l (v := (f_tellS g 1 nb np i d).toInt64) hx hb dX4_digest_66 rfl ?_
        refine lv_ladd hx hb dX4_digest_67 ?_
        refine lv_lstore_n (lv' := [(1, .long ((sn * 31) + ((f_tellS g 1 nb np i d).toInt64))), (0, .ref (b + 0)), (3, .int (nI i)), (4, .int (nI d))]) hx hb dX4_digest_68 rfl hl (by decide) rfl (fun ls hl => ?_)
        refine lv_iinc (v := nI (d + 1)) (lv' := [(4, .int (nI (d + 1))), (1, .long ((sn * 31) + ((f_tellS g 1 nb np i d).toInt64))), (0, .ref (b + 0)), (3, .int (nI i))]) hx hb dX4_digest_69 hl (k := 3) rfl ((by rw [← nI_1]; rfl)) (by decide) rfl (fun ls hl => ?_)
        refine lv_goto (tgt := 45) hx hb dX4_digest_72 (by decide) ?_
        exact ih_d hltd ((sn * 31) + ((f_tellS g 1 nb np i d).toInt64)) _ (by rw [dig1_s, ← hI]) (lv_sub hl [2, 1, 3, 0] rfl)
  · have hlt : i < 10 := br_nle (show (10 : Int32) = nI 10 from rfl) rfl (by omega) (by omega) c_1
    refine lv_lload_n hx hb dX4_digest_12 rfl (lv_at hl 1 rfl) ?_
    refine lv_ldc2 hx hb hown (hts _ q_310) dX4_digest_13 ?_
    refine lv_lmul hx hb dX4_digest_16 ?_
    refine lv_aload_n hx hb dX4_digest_17 rfl (lv_at hl 0 rfl) ?_
    refine w_get hx hb hts inX4 hown hK hW (by decide) (Ent_0) rfl 0 (by decide) q_460 (fun _ h => h) rfl dX4_digest_18 ?_
    refine lv_iload_n hx hb dX4_digest_21 rfl (lv_at hl 2 rfl) ?_
    refine k_R (c_V0 ⟨hx, hb, hml, hown, hts⟩ (metX1_tellCount l X b w g (o := 1) (Or.inl rfl) h i hlt) hK hW (ltL (Or.inl rfl)) (Ent_L (Or.inl rfl)) rfl q_201 q_202 q_203 q_2 q_204 hX1_tellCount ⟨Nat.le_of_ble_eq_true rfl, Nat.le_of_ble_eq_true rfl, rfl, rfl⟩ rfl dX4_digest_22 rfl hl.1 (Nat.le_of_ble_eq_true rfl) ⟨Nat.le_of_ble_eq_true rfl, Nat.le_of_ble_eq_true rfl⟩) ?_
    refine lv_i2l (v := (f_tellC g 1 nb np i).toInt64) hx hb dX4_digest_25 rfl ?_
    refine lv_ladd hx hb dX4_digest_26 ?_
    refine lv_lstore_n (lv' := [(1, .long ((sm * 31) + ((f_tellC g 1 nb np i).toInt64))), (0, .ref (b + 0)), (3, .int (nI i))]) hx hb dX4_digest_27 rfl hl (by decide) rfl (fun ls hl => ?_)
    refine lv_iinc (v := nI (i + 1)) (lv' := [(3, .int (nI (i + 1))), (1, .long ((sm * 31) + ((f_tellC g 1 nb np i).toInt64))), (0, .ref (b + 0))]) hx hb dX4_digest_28 hl (k := 2) rfl ((by rw [← nI_1]; rfl)) (by decide) rfl (fun ls hl => ?_)
    refine lv_goto (tgt := 6) hx hb dX4_digest_31 (by decide) ?_
    exact ih_i hlt ((sm * 31) + ((f_tellC g 1 nb np i).toInt64)) _ (by rw [dig1_s, ← hI]) (lv_sub hl [2, 1, 0] rfl)
end
section
/-- all from b on -/
abbrev AB (b : Nat) : Nat → Prop := fun q => b ≤ q
/-! rows of making: the cells lie one behind the other from b on, n of them so far -/
def cw (X : CX) (b n : Nat) (E : Nat → va_E) (H : Heap) : Prop := H.size = b + n ∧ ∀ i, i < n → va_at X.1 vwCl (b + i, E i) H
def eu (E : Nat → va_E) (i : Nat) (x : va_E) : Nat → va_E := fun j => if j = i then x else E j
theorem eu_s {E : Nat → va_E} {i : Nat} {x : va_E} : eu E i x i = x := by simp [eu]
theorem eu_n {E : Nat → va_E} {i j : Nat} {x : va_E} (h : j ≠ i) : eu E i x j = E j := by simp [eu, h]
theorem cw_congr {X : CX} {b n : Nat} {E E' : Nat → va_E} {H : Heap} (h : cw X b n E H) (he : ∀ i, i < n → E' i = E i) : cw X b n E' H := ⟨h.1, fun i hi => by rw [he i hi]; exact h.2 i hi⟩
theorem cw_put {X : CX} {b n i : Nat} {E : Nat → va_E} {e : va_E} {H H1 : Heap} (h : cw X b n E H) (hz : H1.size = H.size) (ha : va_at X.1 vwCl (b + i, e) H1) (ho : ∀ q : Nat, q ≠ b + i → H1[q]? = H[q]?) : cw X b n (eu E i e) H1 := by
  refine ⟨by rw [hz]; exact h.1, fun j hj => ?_⟩
  by_cases q : j = i
  · subst q; rw [eu_s]; exact ha
  · rw [eu_n q]; exact (h.2 j hj).kept (ho _ (by show b + j ≠ b + i; omega))
theorem cw_push {X : CX} {b n : Nat} {E : Nat → va_E} {e : va_E} {H H1 : Heap} (h : cw X b n E H) (hz : H1.size = H.size + 1) (ha : va_at X.1 vwCl (b + n, e) H1) (ho : ∀ q : Nat, q < H.size → H1[q]? = H[q]?) : cw X b (n + 1) (eu E n e) H1 := by
  refine ⟨by rw [hz, h.1]; omega, fun j hj => ?_⟩
  by_cases q : j = n
  · subst q; rw [eu_s]; exact ha
  · rw [eu_n q]; exact (h.2 j (by omega)).kept (ho _ (by show b + j < H.size; rw [h.1]; omega))
theorem cw_h {X : CX} {b n : Nat} {E : Nat → va_E} {H H1 : Heap} (h : H1 = H) (k : cw X b n E H) : cw X b n E H1 := h ▸ k
/-- the words of the arrays of references -/
def KA (U : State) : Prop := va_AO RX3 U ∧ va_AO RX0 U ∧ va_AO RX2 U
theorem KA.warm {s U : State} (h : KA s) (hW : s.WarmedH U.vm) : KA U := ⟨h.1.moved hW.alike, h.2.1.moved hW.alike, h.2.2.moved hW.alike⟩
theorem KA.blind {U : State} {g : JFrame} {mk : MethodId} {a : Array Value} (h : KA U) : KA (U.calling g mk a) := ⟨h.1.moved (Vm.Alike.refl U.vm), h.2.1.moved (Vm.Alike.refl U.vm), h.2.2.moved (Vm.Alike.refl U.vm)⟩
def PreN (X : CX) (b n : Nat) (E : Nat → va_E) (av : List Value) : Array Value → State → Prop := va_Pc av (fun U => cw X b n E U.heap ∧ KK X U ∧ KA U)
theorem PreN_blind {X : CX} {b n : Nat} {E : Nat → va_E} {av : List Value} : FrameBlind (PreN X b n E av) := fun _ _ _ _ q => ⟨q.1, q.2.1, q.2.2.1.blind, q.2.2.2.blind⟩
abbrev QvN (X : CX) (b n : Nat) (post : (Nat → va_E) → Prop) := va_Qv post (fun E t => cw X b n E t.heap) (AB b)
section MK
variable {p : Program} {l : Launch} {e : Env} {R : Room} {s : State} {m : MethodId} {args : Array Value} {below : List Frame} {meth : Method} {c : Code} {H : Heap} {locs : List Loc} {cells slots : Nat} {Q : State → Prop}
variable {cc : ByteArray} {pc : Nat} {ls : Array Slot} {rest : List Value} {X : CX} {b n : Nat} {E : Nat → va_E} {H0 : Heap}
theorem k_new (hexec : p.tables.exec = Jvm.exec) (hb : c.code = cc) {own C : String} {T : u_T} {N ci index : Nat} (hts : ∀ w ∈ lw_good, w.before args s = true) (hin : ∀ w ∈ u_ws C T N, w ∈ lw_good) (ty0 : Nat → FieldType) (hty : ∀ k, k < N → parseFieldDescriptor (T k).2.2.1 = some (ty0 k)) (hown : s.vm.findClass own = some m.cls) (hcl : Cond.classLink own index C ∈ lw_good) (hinst : Cond.instantiable C N ∈ lw_good) (hini : Cond.initialized C ∈ lw_good)
    (hK : KK X s) (hW : cw X b n E H) (hS : va_S (AB b) H0 H locs) (hc : vwCl[ci]? = some (C, T, N)) {fs : List Value} (hfs : ∀ j, j < N → defaultValue (ty0 j) = vp_V fs j) (hcells : cells + 1 ≤ R.cells) (hslots : slots + N ≤ R.slots) (hdg : decode cc pc = .ok (.new index, 3))
    (kk : ∀ (H1 : Heap), cw X b (n + 1) (eu E n (.inr (ci, fs))) H1 → va_S (AB b) H0 H1 locs → W p l e R s m args below meth c H1 locs (cells + 1) (slots + N) Q (F0 m (pc + 3) ls (.ref (b + n) :: rest))) : W p l e R s m args below meth c H locs cells slots Q (F0 m pc ls rest) := by
  have hKn := hK.1.1 ci _ hc
  refine W.newcK hexec hb hown (hts _ hcl) (hts _ hinst) (hts _ hini) rfl hdg hcells hslots hKn.2.1 hW.1 fun H1 kC hkC e1 z1 o1 => ?_
  refine kk H1 (cw_push hW (by rw [z1, hW.1]) ⟨_, hc, (u_born ty0 hts hin hKn hkC e1 hty).to hfs⟩ (fun q hq => o1 q (by rw [← hW.1]; exact hq))) ⟨Nat.le_trans hS.1 (by rw [z1, hW.1]; omega), fun x h1 h2 => (o1 x (by rw [← hW.1]; exact Nat.lt_of_lt_of_le h1 hS.1)).trans (hS.2.1 x h1 h2), hS.2.2⟩
theorem k_newa (hexec : p.tables.exec = Jvm.exec) (hb : c.code = cc) (hts : ∀ w ∈ lw_good, w.before args s = true) (h1 : Cond.arrayClass .int ∈ lw_good) (hK : KK X s) (hW : cw X b n E H) (hS : va_S (AB b) H0 H locs) {x : Int32} (N : Nat) (hx : x = nI N) (hN : N ≤ 2048) (hcells : cells + 1 ≤ R.cells) (hslots : slots + N ≤ R.slots) (hdg : decode cc pc = .ok (.newarray .int, 2))
    (kk : ∀ (H1 : Heap), cw X b (n + 1) (eu E n (.inl (X.2 0, N, .inl (fun _ => 0)))) H1 → va_S (AB b) H0 H1 locs → W p l e R s m args below meth c H1 locs (cells + 1) (slots + N) Q (F0 m (pc + 2) ls (.ref (b + n) :: rest))) : W p l e R s m args below meth c H locs cells slots Q (F0 m pc ls (.int x :: rest)) := by
  subst hx
  refine va_newaK (atype := .int) hexec hb (hts _ h1) rfl hdg rfl (nI_pos (by omega)) (nI_clamp (by omega)) (by show N * 4 ≤ 536870912; omega) hcells hslots hW.1 fun H1 cA e1 z1 o1 hAr hNm => ?_
  have hcA : cA = X.2 0 := by
    have h9 : s.vm.findClass ("[" ++ FieldType.int.toString) = some (X.2 0) := (hK.1.2 0 _ rfl).2
    exact Option.some.inj (hNm.symm.trans h9)
  subst hcA
  exact kk H1 (cw_push hW (by rw [z1, hW.1]) e1 (fun q hq => o1 q (by rw [← hW.1]; exact hq))) ⟨Nat.le_trans hS.1 (by rw [z1, hW.1]; omega), fun x h1 h2 => (o1 x (by rw [← hW.1]; exact Nat.lt_of_lt_of_le h1 hS.1)).trans (hS.2.1 x h1 h2), hS.2.2⟩
theorem k_newq (hexec : p.tables.exec = Jvm.exec) (hb : c.code = cc) {own C : String} {index : Nat} (t0 : Nat) (hts : ∀ w ∈ lw_good, w.before args s = true) (hown : s.vm.findClass own = some m.cls) (hcl : Cond.classLink own index C ∈ lw_good) (hover : va_AO C s) (hK : KK X s) (ht : (tyl X)[t0]? = some (X.2 t0, .object C)) (hW : cw X b n E H) (hS : va_S (AB b) H0 H locs) {x : Int32} (N : Nat) (hx : x = nI N) (hN : N ≤ 2048) (hcells : cells + 1 ≤ R.cells) (hslots : slots + N ≤ R.slots) (hdg : decode cc pc = .ok (.anewarray index, 3))
    (kk : ∀ (H1 : Heap), cw X b (n + 1) (eu E n (.inl (X.2 t0, N, .inr (.inr (.inr (.inr (fun _ => none))))))) H1 → va_S (AB b) H0 H1 locs → W p l e R s m args below meth c H1 locs (cells + 1) (slots + N) Q (F0 m (pc + 3) ls (.ref (b + n) :: rest))) : W p l e R s m args below meth c H locs cells slots Q (F0 m pc ls (.int x :: rest)) := by
  subst hx
  have hcl2 : (nI N).toNatClampNeg = N := nI_clamp (by omega)
  refine W.anew hexec hb hown (hts _ hcl) (va_AO.use hover) rfl hdg rfl (nI_pos (by omega)) (by rw [hcl2]; omega) hcells (by rw [hcl2]; exact hslots) fun cA kA comp f1 f2 f3 f4 => ?_
  rw [hcl2]
  have hcA : cA = X.2 t0 := by
    obtain ⟨_, _, -, -, -, h9⟩ := (hK.1.2 t0 _ ht).2
    exact Option.some.inj (f1.symm.trans h9)
  subst hcA
  generalize hH1 : H.push ({ cls := X.2 t0, slots := Array.replicate N .null, vm := .none } : Cell) = H1
  have z1 : H1.size = H.size + 1 := by rw [← hH1, Array.size_push]
  have e1 : H1[H.size]? = some (arrV (X.2 t0) N (fun _ => .null)) := by rw [← hH1, Array.getElem?_push_size, ← arrV_new]
  have o1 : ∀ q : Nat, q < H.size → H1[q]? = H[q]? := fun q hq => by rw [← hH1, Array.getElem?_push, if_neg (Nat.ne_of_lt hq)]
  have hz := hW.1
  refine W.eq (g2 := F0 m (pc + 3) ls (.ref (b + n) :: rest)) (by rw [hz]) ?_
  refine kk H1 (cw_push hW z1 ?_ o1) ⟨Nat.le_trans hS.1 (by omega), fun x h1 h2 => (o1 x (Nat.lt_of_lt_of_le h1 hS.1)).trans (hS.2.1 x h1 h2), hS.2.2⟩
  show H1[b + n]? = some (vp_cell _ _)
  rw [vp_cell_q, ← hz]
  exact e1
theorem k_put (hexec : p.tables.exec = Jvm.exec) (hb : c.code = cc) {own ref C : String} {T : u_T} {N ci index : Nat} (hts : ∀ w ∈ lw_good, w.before args s = true) (hin : ∀ w ∈ u_ws C T N, w ∈ lw_good) (ty0 : Nat → FieldType) (hty : ∀ k, k < N → parseFieldDescriptor (T k).2.2.1 = some (ty0 k)) (hnm : ∀ a, a < N → ∀ b, b < N → a ≠ b → (T a).2.1 ≠ (T b).2.1) (hown : s.vm.findClass own = some m.cls) (hK : KK X s) (hW : cw X b n E H) (hS0 : va_S (AB b) H0 H locs) {i : Nat} (hi : i < n) {fs : List Value} (he : E i = .inr (ci, fs)) (hc : vwCl[ci]? = some (C, T, N)) (k : Nat) (hk : k < N) (hlink : Cond.fieldLink own index ref (T k).2.1 (T k).2.2.1 ∈ lw_good) (hsame : ∀ x, s.fieldFound? (T k).1 (T k).2.1 (T k).2.2.1 = some x → s.fieldFound? ref (T k).2.1 (T k).2.2.1 = some x) (hfin : (T k).2.2.2 = false) {x : Value} (hn : narrow (ty0 k) x = x) (hfit : fits (ty0 k) x = true) (hl : k < fs.length)
    (hdg : decode cc pc = .ok (.putfield index, 3)) (kk : ∀ (H1 : Heap) (locs1 : List Loc), cw X b n (eu E i (.inr (ci, fs.set k x))) H1 → va_S (AB b) H0 H1 locs1 → W p l e R s m args below meth c H1 locs1 cells slots Q (F0 m (pc + 3) ls rest)) : W p l e R s m args below meth c H locs cells slots Q (F0 m pc ls (x :: .ref (b + i) :: rest)) := by
  have hap := va_apart (own := own) hts hin ty0 hty hnm hK.1 hc
  have hat := hW.2 i hi
  rw [he] at hat
  obtain ⟨r, h1, cell, q1, q2, q3, q4⟩ := hat
  have hr : r = (C, T, N) := Option.some.inj (h1.symm.trans hc)
  subst hr
  obtain ⟨hS, hfc, kC, hkC, hkind⟩ := hK.1.1 ci _ hc
  obtain ⟨cf, kf, fi, f, hf, hsl⟩ := hS k hk
  have hlay := hts _ (hin _ (u_in_lay hk))
  unfold u_lay at hlay
  rw [if_neg (by rw [hfin]; decide)] at hlay
  have hst := (u_facts hfc hkC (u_lays hts hin hk) hf).1
  have h6 := u_store hfc hkC hkind hlay hf (hty k hk) hn hfit
  refine W.putK hexec hb (f := f) ⟨hown, hts _ hlink, ⟨_, _, _, hsame _ hf⟩, hst⟩ (by rw [q2]; exact h6) q1 q3 (by rw [hsl]; exact k2_hasslot (q4 k hk)) rfl rfl hdg fun H' e1 e2 e3 => ?_
  rw [hsl] at e1 ⊢
  refine kk H' _ (cw_put hW e2 ?_ e3) (hS0.put e2 e3 (Nat.le_add_right b i))
  exact ⟨_, hc, t_OB.to (V := updV (vp_V fs) k x) ⟨_, e1, q2, q3, t_set q4 hap hk x⟩ (fun j _ => vp_updV_set hl x j)⟩
theorem k_putF (hexec : p.tables.exec = Jvm.exec) (hb : c.code = cc) {own ref C : String} {T : u_T} {N ci index : Nat} (hts : ∀ w ∈ lw_good, w.before args s = true) (hin : ∀ w ∈ u_ws C T N, w ∈ lw_good) (ty0 : Nat → FieldType) (hty : ∀ k, k < N → parseFieldDescriptor (T k).2.2.1 = some (ty0 k)) (hnm : ∀ a, a < N → ∀ b, b < N → a ≠ b → (T a).2.1 ≠ (T b).2.1) (hown : s.vm.findClass own = some m.cls) (hK : KK X s) (hW : cw X b n E H) (hS0 : va_S (AB b) H0 H locs) {i : Nat} (hi : i < n) {fs : List Value} (he : E i = .inr (ci, fs)) (hc : vwCl[ci]? = some (C, T, N)) (k : Nat) (hk : k < N) (hlink : Cond.fieldLink own index ref (T k).2.1 (T k).2.2.1 ∈ lw_good) (hsame : ∀ x, s.fieldFound? (T k).1 (T k).2.1 (T k).2.2.1 = some x → s.fieldFound? ref (T k).2.1 (T k).2.2.1 = some x) (hfin : (T k).2.2.2 = true) (hin2 : meth.name = "<init>") (hdecl : (T k).1 = own) {x : Value} (hn : narrow (ty0 k) x = x) (hfit : fits (ty0 k) x = true) (hl : k < fs.length)
    (hdg : decode cc pc = .ok (.putfield index, 3)) (kk : ∀ (H1 : Heap) (locs1 : List Loc), cw X b n (eu E i (.inr (ci, fs.set k x))) H1 → va_S (AB b) H0 H1 locs1 → W p l e R s m args below meth c H1 locs1 cells slots Q (F0 m (pc + 3) ls rest)) : W p l e R s m args below meth c H locs cells slots Q (F0 m pc ls (x :: .ref (b + i) :: rest)) := by
  have hap := va_apart (own := own) hts hin ty0 hty hnm hK.1 hc
  have hat := hW.2 i hi
  rw [he] at hat
  obtain ⟨r, h1, cell, q1, q2, q3, q4⟩ := hat
  have hr : r = (C, T, N) := Option.some.inj (h1.symm.trans hc)
  subst hr
  obtain ⟨hS, hfc, kC, hkC, hkind⟩ := hK.1.1 ci _ hc
  obtain ⟨cf, kf, fi, f, hi2, hsl⟩ := hS k hk
  have hlay := hts _ (hin _ (u_in_lay hk))
  unfold u_lay at hlay
  rw [if_pos hfin] at hlay
  have hst := (u_facts hfc hkC (u_lays hts hin hk) hi2).1
  have hcf : m.cls = cf := by
    obtain ⟨_, _, c', _, _, _, -, -, hf', -, -, -, hown2, -⟩ := Cond.laysFinal_spec hlay
    have e1 : c' = cf := by have := hi2.symm.trans hf'; simp at this; exact this.1.symm
    rw [hdecl] at hown2
    rw [← e1]; exact Option.some.inj (hown.symm.trans hown2)
  have h6 := u_fits hfc hkC hkind (Or.inr hlay) hi2 (hty k hk) hn hfit
  refine W.putFinK hexec hb hown (hts _ hlink) (hsame _ hi2) hst hcf hin2 (by rw [q2]; exact h6) q1 q3 (by rw [hsl]; exact k2_hasslot (q4 k hk)) rfl rfl hdg fun H' e1 e2 e3 => ?_
  rw [hsl] at e1 ⊢
  refine kk H' _ (cw_put hW e2 ?_ e3) (hS0.put e2 e3 (Nat.le_add_right b i))
  exact ⟨_, hc, t_OB.to (V := updV (vp_V fs) k x) ⟨_, e1, q2, q3, t_set q4 hap hk x⟩ (fun j _ => vp_updV_set hl x j)⟩
theorem cw_P {i : Nat} (h : cw X b n E H) (hi : i < n) {x : va_E} (he : E i = x) : va_P X.1 vwCl [(b + i, x)] H := by
  intro k q hk
  match k, hk with
  | 0, hk => cases hk; rw [← he]; exact h.2 i hi
  | k + 1, hk => simp at hk
theorem k_get (hexec : p.tables.exec = Jvm.exec) (hb : c.code = cc) {own ref C : String} {T : u_T} {N ci index : Nat} (hts : ∀ w ∈ lw_good, w.before args s = true) (hin : ∀ w ∈ u_ws C T N, w ∈ lw_good) (hown : s.vm.findClass own = some m.cls) (hK : KK X s) (hW : cw X b n E H) {i : Nat} (hi : i < n) {fs : List Value} (he : E i = .inr (ci, fs)) (hc : vwCl[ci]? = some (C, T, N)) (k : Nat) (hk : k < N) (hlink : Cond.fieldLink own index ref (T k).2.1 (T k).2.2.1 ∈ lw_good) (hsame : ∀ x, s.fieldFound? (T k).1 (T k).2.1 (T k).2.2.1 = some x → s.fieldFound? ref (T k).2.1 (T k).2.2.1 = some x) {v : Value} (hv : fs[k]? = some v) (hdg : decode cc pc = .ok (.getfield index, 3))
    (kk : W p l e R s m args below meth c H locs cells slots Q (F0 m (pc + 3) ls (v :: rest))) : W p l e R s m args below meth c H locs cells slots Q (F0 m pc ls (.ref (b + i) :: rest)) :=
  va_get hexec hb hts hin hown hK.1 (cw_P hW hi he) 0 rfl hc k hk (hts _ hlink) hsame hv hdg kk
theorem k_astq (hexec : p.tables.exec = Jvm.exec) (hb : c.code = cc) (hK : KK X s) (hW : cw X b n E H) (hS : va_S (AB b) H0 H locs) {i v : Nat} (hi : i < n) (hv : v < n) {t0 ci N : Nat} {r : vw_C} {vs : List Value} {f : Nat → Option Nat} (he : E i = .inl (X.2 t0, N, .inr (.inr (.inr (.inr f))))) (ht : (tyl X)[t0]? = some (X.2 t0, .object r.1)) (hev : E v = .inr (ci, vs)) (hc : vwCl[ci]? = some r) (k : Nat) {x : Int32} (hx : x = nI k) (hk : k < N) (hN : N ≤ 2048) (hdg : decode cc pc = .ok (.aastore, 1))
    (kk : ∀ (H1 : Heap) (locs1 : List Loc), cw X b n (eu E i (.inl (X.2 t0, N, .inr (.inr (.inr (.inr (va_up f k (some (b + v)))))))) ) H1 → va_S (AB b) H0 H1 locs1 → W p l e R s m args below meth c H1 locs1 cells slots Q (F0 m (pc + 1) ls rest)) : W p l e R s m args below meth c H locs cells slots Q (F0 m pc ls (.ref (b + v) :: .int x :: .ref (b + i) :: rest)) := by
  obtain ⟨ek, hin⟩ := nI_cl hx hk hN
  have hlt : x.toNatClampNeg < N := by rw [ek]; exact hk
  have h0 : ¬ x < 0 := fun q => hin (Or.inl q)
  have hat := hW.2 v hv
  rw [hev] at hat
  have hai := hW.2 i hi
  rw [he] at hai
  obtain ⟨r', hr', cellV, g1, g2, g3, -⟩ := hat
  have hcls := (hK.1.1 ci r hc).2
  obtain ⟨kA, comp, k1, k2, k3, -⟩ := (hK.1.2 t0 _ ht).2
  have hcomp : comp = X.1.1 ci := Option.some.inj (k3.symm.trans hcls.1)
  subst hcomp
  obtain ⟨kC, hkC, -⟩ := hcls.2
  refine W.aast hexec hb hai (fun q h => by cases h) (fun h => by cases h) k1 k2 rfl hkC ⟨h0, by show _ < (arrV _ _ _).slots.size; rw [arrV_size]; exact hlt⟩ g1 (fun q h => by rw [g3] at h; cases h) (by rw [g2]; exact hkC) (by rw [g2]; exact va_assign hcls) rfl rfl hdg fun H1 e z oq => ?_
  refine kk H1 _ (cw_put hW z ?_ oq) (hS.put z oq (Nat.le_add_right b i))
  show H1[b + i]? = some (vp_cell _ _)
  rw [e]
  rw [vp_cell_q, vp_cell_q, arrV_store, ek]
  congr 2
  funext q
  by_cases hq : q = k
  · subst hq
    simp [updV, va_up, va_rf]
  · simp [updV, va_up, hq]
theorem k_iast (hexec : p.tables.exec = Jvm.exec) (hb : c.code = cc) (hK : KK X s) (hW : cw X b n E H) (hS0 : va_S (AB b) H0 H locs) {i : Nat} (hi : i < n) {N : Nat} {f : Nat → Int32} (he : E i = .inl (X.2 0, N, .inl f)) (k : Nat) {j x : Int32} (hj : j = nI k) (hk : k < N) (hN : N ≤ 2048) (hdg : decode cc pc = .ok (.iastore, 1))
    (kk : ∀ (H1 : Heap) (locs1 : List Loc), cw X b n (eu E i (.inl (X.2 0, N, .inl (upd f k x)))) H1 → va_S (AB b) H0 H1 locs1 → W p l e R s m args below meth c H1 locs1 cells slots Q (F0 m (pc + 1) ls rest)) : W p l e R s m args below meth c H locs cells slots Q (F0 m pc ls (.int x :: .int j :: .ref (b + i) :: rest)) := by
  obtain ⟨e1, e2⟩ := nI_cl hj hk hN
  have hai := hW.2 i hi
  rw [he] at hai
  refine W.iast hexec hb hai ((hK.1.2 0 _ rfl).1 N (fun j => .int (f j))) (fun q => by cases q) (by show ¬ (j < 0 ∨ (arrV _ _ _).slots.size ≤ _); rw [arrV_size]; exact e2) rfl rfl hdg fun H1 e z oq => ?_
  refine kk H1 _ (cw_put hW z ?_ oq) (hS0.put z oq (Nat.le_add_right b i))
  show H1[b + i]? = some (vp_cell _ _)
  rw [e, e1]
  rw [vp_cell_i, vp_cell_i, arrV_store]
  congr 2
  funext q
  by_cases hq : q = k
  · subst hq
    simp [updV, upd]
  · simp [updV, upd, hq]
variable {own C : String} {y : MethodName} {cy : ByteArray} {maxL nL nA index mc ms : Nat} {rm : Room} {Qc : Array Value → State → Outcome → State → Prop} {As st0 : List Value} {a : Array Value} {fr : Addr → Prop}
theorem c_I0 (hF : CallFix p m c cc nL s args lw_good own) {i : Nat} (hM : Met l y (wsg y cy maxL none) rm (PreN X b n E (.ref (b + i) :: As)) Qc mc ms fr) (hK : KK X s) (hA : KA s) (hW : cw X b n E H)
    (h1 : Cond.methodLink own index y ∈ lw_good) (h2 : Cond.instanceMethod y ∈ lw_good) (h4 : Cond.initialized C ∈ lw_good) (h5 : Cond.code y cy maxL none ∈ lw_good)
    (hd : y.cls = C ∧ y.cls ≠ "java/lang/invoke/MethodHandle" ∧ y.cls ≠ "java/lang/invoke/VarHandle" ∧ (parseMethodDescriptor y.desc).map (fun d => d.parameters.length) = some nA) (hnm : y.name = "<init>") (hR : rm.frames + 1 ≤ R.frames ∧ 8 + (maxL + 11) + rm.locals ≤ R.locals ∧ rm.cells = mc ∧ rm.slots = ms)
    (hst : st0 = As.reverse ++ .ref (b + i) :: rest) (hdg : decode cc pc = .ok (.invokespecial index, 3)) (hn : As.length = nA) (hsz : ls.size = nL) (hre : (rest.map fun v => v.category).sum ≤ 8) (hf : cells + mc ≤ R.cells ∧ slots + ms ≤ R.slots) :
    va_Run p l e R s m args below meth c H locs cells slots mc ms (F0 m pc ls st0) rest (Qc (Value.ref (b + i) :: As).toArray) fr :=
  va_runI hF hM ⟨callB_of nA hF.2.2.2.2 (good_in h5) rfl hR.2.2.1 hR.2.2.2 (by rw [hd.1]; exact hF.2.2.2.2 _ h4) (hF.2.2.2.2 _ h1) hd.2 ⟨hR.1, hR.2.1⟩, hnm, hF.2.2.2.2 _ h2⟩ ⟨PreN_blind, fun U hU hWm => ⟨rfl, by rw [hU]; exact hW, hK.warm hWm, hA.warm hWm⟩⟩ rfl hn hsz hst (lv_room hre) hdg hf
theorem c_IN0 (hF : CallFix p m c cc nL s args lw_good own) {host : String} {i : Nat} (hM : Met l y (wsg y cy maxL none) rm (PreN X b n E (.ref (b + i) :: As)) Qc mc ms fr) (hK : KK X s) (hA : KA s) (hW : cw X b n E H)
    (h1 : Cond.methodLinkNest own index y host ∈ lw_tbl) (h2 : Cond.instanceMethod y ∈ lw_good) (h4 : Cond.initialized C ∈ lw_good) (h5 : Cond.code y cy maxL none ∈ lw_good)
    (hd : y.cls = C ∧ y.cls ≠ "java/lang/invoke/MethodHandle" ∧ y.cls ≠ "java/lang/invoke/VarHandle" ∧ (parseMethodDescriptor y.desc).map (fun d => d.parameters.length) = some nA) (hnm : y.name = "<init>") (hR : rm.frames + 1 ≤ R.frames ∧ 8 + (maxL + 11) + rm.locals ≤ R.locals ∧ rm.cells = mc ∧ rm.slots = ms)
    (hst : st0 = As.reverse ++ .ref (b + i) :: rest) (hdg : decode cc pc = .ok (.invokespecial index, 3)) (hn : As.length = nA) (hsz : ls.size = nL) (hre : (rest.map fun v => v.category).sum ≤ 8) (hf : cells + mc ≤ R.cells ∧ slots + ms ≤ R.slots) :
    va_Run p l e R s m args below meth c H locs cells slots mc ms (F0 m pc ls st0) rest (Qc (Value.ref (b + i) :: As).toArray) fr :=
  va_runIN hF hM ⟨va_cnB nA hF.2.2.2.2 (good_in h5) rfl hR.2.2.1 hR.2.2.2 (hK.nw h1 rfl) (by rw [hd.1]; exact hF.2.2.2.2 _ h4) hd.2 ⟨hR.1, hR.2.1⟩, hnm, hF.2.2.2.2 _ h2⟩ ⟨PreN_blind, fun U hU hWm => ⟨rfl, by rw [hU]; exact hW, hK.warm hWm, hA.warm hWm⟩⟩ rfl hn hsz hst (lv_room hre) hdg hf
theorem k_vN {n1 : Nat} {post : (Nat → va_E) → Prop} (hr : va_Run p l e R s m args below meth c H locs cells slots mc ms (F0 m pc ls st0) rest (QvN X b n1 post a) (AB b)) (hS : va_S (AB b) H0 H locs)
    (kk : ∀ (E1 : Nat → va_E) (H1 : Heap) (locs1 : List Loc), post E1 → cw X b n1 E1 H1 → va_S (AB b) H0 H1 locs1 → W p l e R s m args below meth c H1 locs1 (cells + mc) (slots + ms) Q (F0 m (pc + 3) ls rest)) : W p l e R s m args below meth c H locs cells slots Q (F0 m pc ls st0) :=
  va_callv hr hS (fun _ _ h => h) (fun _ h => h) (fun u _ H1 locs1 ht _ hp hb _ _ hS1 => kk u H1 locs1 hp (ht ▸ hb) hS1)
theorem k_obj (hexec : p.tables.exec = Jvm.exec) (hb : c.code = cc) (hml : c.maxLocals = nL) (hts : ∀ w ∈ lw_good, w.before args s = true) (hown : s.vm.findClass own = some m.cls) {idx : Nat} (h1 : Cond.methodLink own idx Lib.objectInit ∈ lw_good) (hsz : ls.size = nL) {a : Nat} (hd : decode cc pc = .ok (.invokespecial idx, 3)) (hf : 1 ≤ R.frames) (hlo : (rest.map fun v => v.category).sum + 12 ≤ R.locals)
    (kk : W p l e R s m args below meth c H locs cells slots Q (F0 m (pc + 3) ls rest)) : W p l e R s m args below meth c H locs cells slots Q (F0 m pc ls (.ref a :: rest)) :=
  W.objInit hexec hb hown (hts _ h1) (hts _ q_49) (hts _ q_50) rfl (by rw [hml]; exact hsz) rfl hd hf (by show 2 * 0 + _ + 12 ≤ _; omega) kk
end MK
/-- the store at the beginning -/
def g00 : S2 := fun a k =>
  if (5 ≤ a ∧ a < 15) ∨ (75 ≤ a ∧ a < 85) then (if k = 0 then 2 else if k = 1 then nI ((if a < 71 then a - 5 else a - 75) / 2) else if k = 2 then -1 else 0)
  else if (15 ≤ a ∧ a < 21) ∨ (85 ≤ a ∧ a < 91) then (if k = 0 then nI (if a < 71 then a - 15 else a - 85) else 0)
  else if (21 ≤ a ∧ a < 71) ∨ (91 ≤ a ∧ a < 141) then (if k = 3 ∨ k = 6 then -1 else 0)
  else 0
section LPN
variable {p : Program} {l : Launch} {e : Env} {R : Room} {s : State} {m : MethodId} {args : Array Value} {below : List Frame} {meth : Method} {c : Code} {H : Heap} {locs : List Loc} {cells slots : Nat} {Q : State → Prop}
variable {pc : Nat} {ls : Array Slot} {X : CX} {b nL : Nat} {H0 : Heap}
theorem w_loopN (n : Nat) (cnt : Nat → Nat) (EE : Nat → Nat → va_E) (L : Nat → List (Nat × Value)) (C Z : Nat → Nat) (hcz : cells = C 0 ∧ slots = Z 0) (hW : cw X b (cnt 0) (EE 0) H) (hS : va_S (AB b) H0 H locs) (hl : lv_has ls nL (L 0))
    (step : ∀ (i : Nat) (H : Heap) (locs : List Loc) (ls : Array Slot), i ≤ n → cw X b (cnt i) (EE i) H → va_S (AB b) H0 H locs → lv_has ls nL (L i) →
      (i < n → ∀ (H' : Heap) (locs' : List Loc) (ls' : Array Slot), cw X b (cnt (i + 1)) (EE (i + 1)) H' → va_S (AB b) H0 H' locs' → lv_has ls' nL (L (i + 1)) → W p l e R s m args below meth c H' locs' (C (i + 1)) (Z (i + 1)) Q (F0 m pc ls' [])) →
      W p l e R s m args below meth c H locs (C i) (Z i) Q (F0 m pc ls [])) : W p l e R s m args below meth c H locs cells slots Q (F0 m pc ls []) := by
  obtain ⟨rfl, rfl⟩ := hcz
  suffices K : ∀ (k i : Nat) (H : Heap) (locs : List Loc) (ls : Array Slot), n - i < k → i ≤ n → cw X b (cnt i) (EE i) H → va_S (AB b) H0 H locs → lv_has ls nL (L i) → W p l e R s m args below meth c H locs (C i) (Z i) Q (F0 m pc ls []) from K (n + 1) 0 H locs ls (by omega) (by omega) hW hS hl
  intro k
  induction k with
  | zero => intro i H locs ls hk; omega
  | succ k ih =>
    intro i H locs ls hk hi hW hS hl
    exact step i H locs ls hi hW hS hl (fun hlt H' locs' ls' a2 a3 a4 => ih (i + 1) H' locs' ls' (by omega) (by omega) a2 a3 a4)
end LPN
end
section
/-! constructors of a stop, a bus, a passenger -/
set_option maxHeartbeats 1000000 in
set_option maxRecDepth 100000 in
theorem metX3_init (l : Launch) (X : CX) (b : Nat) (E : Nat → va_E) {n i : Nat} (hi : i < n) (st : Int32) (he : E i = .inr (3, [.int 0, .int 0, .int 0])) : Met l yX3_init (wsg yX3_init cX3_init 2 none) ({ frames := 1, cells := 0, slots := 0, locals := 24 }) (PreN X b (n) E [.ref (b + i), .int st]) (QvN X b (n) (fun E1 => E1 i = .inr (3, [.int 2, .int st, .int (-1)]) ∧ ∀ j, j ≠ i → E1 j = E j)) 0 0 (AB b) := by
  refine Met.ofW (cc := cX3_init) (maxL := 2) (ret := none) (by decide) rfl ?_
  intro p e s m args below meth c s₁ Bo hml hv
  obtain ⟨rfl, hW, hK, hA⟩ := hv
  have hx := Bo.exec
  have hb := Bo.bytes
  have hr := Bo.returns
  have hts := hts_of (atoms_spec (ws := wsg yX3_init cX3_init 2 none) Bo.pre)
  have hown : s.vm.findClass RX3 = some m.cls := findClass_of_methodNamed Bo.named
  have hlocks := Bo.notSynchronized
  have hin2 : meth.name = "<init>" := (name_of_methodNamed Bo.named Bo.method).1
  have hS : va_S (AB b) s.heap s.heap [] := va_S.rf
  have hl := lv_entry ([.ref (b + i), .int st]) (n := 2) (Nat.le_of_ble_eq_true rfl)
  rw [lg_entry_eq]
  generalize (lg_sl ([.ref (b + i), .int st]) ++ List.replicate (2 - (lg_sl ([.ref (b + i), .int st])).length) Slot.unset).toArray = ls at hl ⊢
  have hl : lv_has ls 2 [(0, .ref (b + i)), (1, .int st)] := hl
  refine lv_aload_n hx hb dX3_init_0 rfl (lv_at hl 0 rfl) ?_
  refine k_obj hx hb hml hts hown q_343 hl.1 dX3_init_1 (Nat.le_of_ble_eq_true rfl) (Nat.le_of_ble_eq_true rfl) ?_
  refine lv_aload_n hx hb dX3_init_4 rfl (lv_at hl 0 rfl) ?_
  refine lv_iconst (v := 2) hx hb dX3_init_5 (by decide) ?_
  refine k_put hx hb hts inX3 tyX3 tyX3_ok nmX3 hown hK hW hS (hi) (he) rfl 0 (by decide) q_344 (fun _ h => h) rfl rfl rfl (Nat.le_of_ble_eq_true rfl) dX3_init_6 (fun H locs hW hS => ?_)
  refine lv_aload_n hx hb dX3_init_9 rfl (lv_at hl 0 rfl) ?_
  refine lv_iload_n hx hb dX3_init_10 rfl (lv_at hl 1 rfl) ?_
  refine k_put hx hb hts inX3 tyX3 tyX3_ok nmX3 hown hK hW hS (hi) (eu_s) rfl 1 (by decide) q_347 (fun _ h => h) rfl rfl rfl (Nat.le_of_ble_eq_true rfl) dX3_init_11 (fun H locs hW hS => ?_)
  refine lv_aload_n hx hb dX3_init_14 rfl (lv_at hl 0 rfl) ?_
  refine lv_iconst (v := (-1)) hx hb dX3_init_15 (by decide) ?_
  refine k_put hx hb hts inX3 tyX3 tyX3_ok nmX3 hown hK hW hS (hi) (eu_s) rfl 2 (by decide) q_350 (fun _ h => h) rfl rfl rfl (Nat.le_of_ble_eq_true rfl) dX3_init_16 (fun H locs hW hS => ?_)
  exact W.vret hx hb hr (fun t9 ht9 _ => ⟨⟨_, rfl, ⟨eu_s, fun j hj => (by rw [eu_n hj, eu_n hj, eu_n hj])⟩, cw_h ht9 hW⟩, hS.F ht9⟩) hS.2.2 dX3_init_19

set_option maxHeartbeats 1000000 in
set_option maxRecDepth 100000 in
theorem metX0_init (l : Launch) (X : CX) (b : Nat) (E : Nat → va_E) {n i : Nat} (hi : i < n) (st : Int32) (he : E i = .inr (0, [.int 0, .int 0, .int 0, .int 0, .int 0, .int 0, .int 0])) : Met l yX0_init (wsg yX0_init cX0_init 2 none) ({ frames := 1, cells := 0, slots := 0, locals := 24 }) (PreN X b (n) E [.ref (b + i), .int st]) (QvN X b (n) (fun E1 => E1 i = .inr (0, [.int st, .int 0, .int 0, .int 0, .int 0, .int 0, .int 0]) ∧ ∀ j, j ≠ i → E1 j = E j)) 0 0 (AB b) := by
  refine Met.ofW (cc := cX0_init) (maxL := 2) (ret := none) (by decide) rfl ?_
  intro p e s m args below meth c s₁ Bo hml hv
  obtain ⟨rfl, hW, hK, hA⟩ := hv
  have hx := Bo.exec
  have hb := Bo.bytes
  have hr := Bo.returns
  have hts := hts_of (atoms_spec (ws := wsg yX0_init cX0_init 2 none) Bo.pre)
  have hown : s.vm.findClass RX0 = some m.cls := findClass_of_methodNamed Bo.named
  have hlocks := Bo.notSynchronized
  have hin2 : meth.name = "<init>" := (name_of_methodNamed Bo.named Bo.method).1
  have hS : va_S (AB b) s.heap s.heap [] := va_S.rf
  have hl := lv_entry ([.ref (b + i), .int st]) (n := 2) (Nat.le_of_ble_eq_true rfl)
  rw [lg_entry_eq]
  generalize (lg_sl ([.ref (b + i), .int st]) ++ List.replicate (2 - (lg_sl ([.ref (b + i), .int st])).length) Slot.unset).toArray = ls at hl ⊢
  have hl : lv_has ls 2 [(0, .ref (b + i)), (1, .int st)] := hl
  refine lv_aload_n hx hb dX0_init_0 rfl (lv_at hl 0 rfl) ?_
  refine k_obj hx hb hml hts hown q_363 hl.1 dX0_init_1 (Nat.le_of_ble_eq_true rfl) (Nat.le_of_ble_eq_true rfl) ?_
  refine lv_aload_n hx hb dX0_init_4 rfl (lv_at hl 0 rfl) ?_
  refine lv_iload_n hx hb dX0_init_5 rfl (lv_at hl 1 rfl) ?_
  refine k_putF hx hb hts inX0 tyX0 tyX0_ok nmX0 hown hK hW hS (hi) (he) rfl 0 (by decide) q_364 (fun _ h => h) rfl hin2 rfl rfl rfl (Nat.le_of_ble_eq_true rfl) dX0_init_6 (fun H locs hW hS => ?_)
  exact W.vret hx hb hr (fun t9 ht9 _ => ⟨⟨_, rfl, ⟨eu_s, fun j hj => (by rw [eu_n hj])⟩, cw_h ht9 hW⟩, hS.F ht9⟩) hS.2.2 dX0_init_9

set_option maxHeartbeats 1000000 in
set_option maxRecDepth 100000 in
theorem metX2_init (l : Launch) (X : CX) (b : Nat) (E : Nat → va_E) {n i : Nat} (hi : i < n)  (he : E i = .inr (2, [.int 0, .int 0, .int 0, .int 0, .int 0, .int 0, .int 0, .int 0])) : Met l yX2_init (wsg yX2_init cX2_init 1 none) ({ frames := 1, cells := 0, slots := 0, locals := 24 }) (PreN X b (n) E [.ref (b + i)]) (QvN X b (n) (fun E1 => E1 i = .inr (2, [.int 0, .int 0, .int 0, .int (-1), .int 0, .int 0, .int (-1), .int 0]) ∧ ∀ j, j ≠ i → E1 j = E j)) 0 0 (AB b) := by
  refine Met.ofW (cc := cX2_init) (maxL := 1) (ret := none) (by decide) rfl ?_
  intro p e s m args below meth c s₁ Bo hml hv
  obtain ⟨rfl, hW, hK, hA⟩ := hv
  have hx := Bo.exec
  have hb := Bo.bytes
  have hr := Bo.returns
  have hts := hts_of (atoms_spec (ws := wsg yX2_init cX2_init 1 none) Bo.pre)
  have hown : s.vm.findClass RX2 = some m.cls := findClass_of_methodNamed Bo.named
  have hlocks := Bo.notSynchronized
  have hin2 : meth.name = "<init>" := (name_of_methodNamed Bo.named Bo.method).1
  have hS : va_S (AB b) s.heap s.heap [] := va_S.rf
  have hl := lv_entry ([.ref (b + i)]) (n := 1) (Nat.le_of_ble_eq_true rfl)
  rw [lg_entry_eq]
  generalize (lg_sl ([.ref (b + i)]) ++ List.replicate (1 - (lg_sl ([.ref (b + i)])).length) Slot.unset).toArray = ls at hl ⊢
  have hl : lv_has ls 1 [(0, .ref (b + i))] := hl
  refine lv_aload_n hx hb dX2_init_0 rfl (lv_at hl 0 rfl) ?_
  refine k_obj hx hb hml hts hown q_398 hl.1 dX2_init_1 (Nat.le_of_ble_eq_true rfl) (Nat.le_of_ble_eq_true rfl) ?_
  refine lv_aload_n hx hb dX2_init_4 rfl (lv_at hl 0 rfl) ?_
  refine lv_iconst (v := (-1)) hx hb dX2_init_5 (by decide) ?_
  refine k_put hx hb hts inX2 tyX2 tyX2_ok nmX2 hown hK hW hS (hi) (he) rfl 3 (by decide) q_407 (fun _ h => h) rfl rfl rfl (Nat.le_of_ble_eq_true rfl) dX2_init_6 (fun H locs hW hS => ?_)
  refine lv_aload_n hx hb dX2_init_9 rfl (lv_at hl 0 rfl) ?_
  refine lv_iconst (v := (-1)) hx hb dX2_init_10 (by decide) ?_
  refine k_put hx hb hts inX2 tyX2 tyX2_ok nmX2 hown hK hW hS (hi) (eu_s) rfl 6 (by decide) q_412 (fun _ h => h) rfl rfl rfl (Nat.le_of_ble_eq_true rfl) dX2_init_11 (fun H locs hW hS => ?_)
  exact W.vret hx hb hr (fun t9 ht9 _ => ⟨⟨_, rfl, ⟨eu_s, fun j hj => (by rw [eu_n hj, eu_n hj])⟩, cw_h ht9 hW⟩, hS.F ht9⟩) hS.2.2 dX2_init_14
end
section
/-! a line while it is made: kS stops, kB buses, kP passengers are there -/
def rowsK (b kk base : Nat) : Nat → Option Nat := fun j => if j < kk then some (b + (base + j)) else none
theorem rowsK_0 {b base : Nat} : rowsK b 0 base = fun _ => none := by funext j; unfold rowsK; rw [if_neg (by omega)]
theorem rowsK_s {b k base : Nat} : va_up (rowsK b k base) k (some (b + (base + k))) = rowsK b (k + 1) base := by
  funext j
  unfold va_up rowsK
  by_cases h : j = k
  · subst h; rw [if_pos rfl, if_pos (by omega)]
  · rw [if_neg h]
    by_cases h2 : j < k
    · rw [if_pos h2, if_pos (by omega)]
    · rw [if_neg h2, if_neg (by omega)]
def aq (X : CX) (t n : Nat) (f : Nat → Option Nat) : va_E := .inl (X.2 t, n, .inr (.inr (.inr (.inr f))))
def ob3 (k : Nat) : va_E := .inr (3, [.int 2, .int (nI (k / 2)), .int (-1)])
def ob0 (k : Nat) : va_E := .inr (0, [.int (nI k), .int 0, .int 0, .int 0, .int 0, .int 0, .int 0])
def ob2 : va_E := .inr (2, [.int 0, .int 0, .int 0, .int (-1), .int 0, .int 0, .int (-1), .int 0])
def ob1 (b o : Nat) : va_E := .inr (1, [.ref (b + (o + 1)), .ref (b + (o + 1 + 1)), .ref (b + (o + 1 + 1 + 1)), .int 0, .int 0, .int 0, .int 0])
def LE (X : CX) (b : Nat) (E : Nat → va_E) (o kS kB kP : Nat) : Nat → va_E := fun i =>
  if i < o then E i
  else if i = o then ob1 b o
  else if i = o + 1 then aq X 2 10 (rowsK b kS (o + 4))
  else if i = o + 2 then aq X 3 6 (rowsK b kB (o + 14))
  else if i = o + 3 then aq X 4 50 (rowsK b kP (o + 20))
  else if i < o + 14 then ob3 (i - (o + 4))
  else if i < o + 20 then ob0 (i - (o + 14))
  else ob2
section LEs
variable {X : CX} {b o kS kB kP k' i : Nat} {E : Nat → va_E}
theorem LE_lt (h : i < o) : LE X b E o kS kB kP i = E i := by unfold LE; rw [if_pos h]
theorem LE_o : LE X b E o kS kB kP o = ob1 b o := by unfold LE; rw [if_neg (by omega), if_pos rfl]
theorem LE_1 : LE X b E o kS kB kP (o + 1) = aq X 2 10 (rowsK b kS (o + 4)) := by unfold LE; rw [if_neg (by omega), if_neg (by omega), if_pos rfl]
theorem LE_2 : LE X b E o kS kB kP (o + 2) = aq X 3 6 (rowsK b kB (o + 14)) := by unfold LE; rw [if_neg (by omega), if_neg (by omega), if_neg (by omega), if_pos rfl]
theorem LE_3 : LE X b E o kS kB kP (o + 3) = aq X 4 50 (rowsK b kP (o + 20)) := by unfold LE; rw [if_neg (by omega), if_neg (by omega), if_neg (by omega), if_neg (by omega), if_pos rfl]
theorem LE_S (h : i < 10) : LE X b E o kS kB kP (o + 4 + i) = ob3 i := by unfold LE; rw [if_neg (by omega), if_neg (by omega), if_neg (by omega), if_neg (by omega), if_neg (by omega), if_pos (by omega), show o + 4 + i - (o + 4) = i by omega]
theorem LE_B (h : i < 6) : LE X b E o kS kB kP (o + 14 + i) = ob0 i := by unfold LE; rw [if_neg (by omega), if_neg (by omega), if_neg (by omega), if_neg (by omega), if_neg (by omega), if_neg (by omega), if_pos (by omega), show o + 14 + i - (o + 14) = i by omega]
theorem LE_P : LE X b E o kS kB kP (o + 20 + i) = ob2 := by unfold LE; rw [if_neg (by omega), if_neg (by omega), if_neg (by omega), if_neg (by omega), if_neg (by omega), if_neg (by omega), if_neg (by omega)]
theorem LE_kS (h : i ≠ o + 1) : LE X b E o kS kB kP i = LE X b E o k' kB kP i := by
  unfold LE
  by_cases h1 : i < o
  · rw [if_pos h1, if_pos h1]
  · by_cases h2 : i = o
    · rw [if_neg h1, if_pos h2, if_neg h1, if_pos h2]
    · rw [if_neg h1, if_neg h2, if_neg h, if_neg h1, if_neg h2, if_neg h]
theorem LE_kB (h : i ≠ o + 2) : LE X b E o kS kB kP i = LE X b E o kS k' kP i := by
  unfold LE
  by_cases h1 : i < o
  · rw [if_pos h1, if_pos h1]
  · by_cases h2 : i = o
    · rw [if_neg h1, if_pos h2, if_neg h1, if_pos h2]
    · by_cases h3 : i = o + 1
      · rw [if_neg h1, if_neg h2, if_pos h3, if_neg h1, if_neg h2, if_pos h3]
      · rw [if_neg h1, if_neg h2, if_neg h3, if_neg h, if_neg h1, if_neg h2, if_neg h3, if_neg h]
theorem LE_kP (h : i ≠ o + 3) : LE X b E o kS kB kP i = LE X b E o kS kB k' i := by
  unfold LE
  by_cases h1 : i < o
  · rw [if_pos h1, if_pos h1]
  · by_cases h2 : i = o
    · rw [if_neg h1, if_pos h2, if_neg h1, if_pos h2]
    · by_cases h3 : i = o + 1
      · rw [if_neg h1, if_neg h2, if_pos h3, if_neg h1, if_neg h2, if_pos h3]
      · by_cases h4 : i = o + 2
        · rw [if_neg h1, if_neg h2, if_neg h3, if_pos h4, if_neg h1, if_neg h2, if_neg h3, if_pos h4]
        · rw [if_neg h1, if_neg h2, if_neg h3, if_neg h4, if_neg h, if_neg h1, if_neg h2, if_neg h3, if_neg h4, if_neg h]
/-- behind the arrays' making -/
theorem LE_start {x1 x2 : va_E} : ∀ i, i < o + 3 + 1 → LE X b E o 0 0 0 i = (eu (eu (eu (eu (eu (eu E (o + 1) (aq X 2 10 (fun _ => none))) o x1) (o + 1 + 1) (aq X 3 6 (fun _ => none))) o x2) (o + 1 + 1 + 1) (aq X 4 50 (fun _ => none))) o (ob1 b o)) i := by
  intro i hi
  rcases (by omega : i < o ∨ i = o ∨ i = o + 1 ∨ i = o + 2 ∨ i = o + 3) with h | rfl | rfl | rfl | rfl
  · rw [LE_lt h, eu_n (by omega), eu_n (by omega), eu_n (by omega), eu_n (by omega), eu_n (by omega), eu_n (by omega)]
  · rw [LE_o, eu_s]
  · rw [LE_1, rowsK_0, eu_n (by omega), eu_n (by omega), eu_n (by omega), eu_n (by omega), eu_n (by omega), eu_s]
  · rw [LE_2, rowsK_0, eu_n (by omega), eu_n (by omega), eu_n (by omega), show o + 2 = o + 1 + 1 from rfl, eu_s]
  · rw [LE_3, rowsK_0, eu_n (by omega), show o + 3 = o + 1 + 1 + 1 from rfl, eu_s]
theorem LE_nS {E1 : Nat → va_E} {x : va_E} (hi : i < 10) (h1 : E1 (o + 4 + i) = ob3 i) (h2 : ∀ j, j ≠ o + 4 + i → E1 j = eu (LE X b E o i 0 0) (o + 4 + i) x j) : ∀ j, j < o + 4 + (i + 1) → LE X b E o (i + 1) 0 0 j = eu E1 (o + 1) (aq X 2 10 (va_up (rowsK b i (o + 4)) i (some (b + (o + 4 + i))))) j := by
  intro j hj
  by_cases e : j = o + 1
  · subst e; rw [eu_s, LE_1, rowsK_s]
  · rw [eu_n e]
    by_cases e2 : j = o + 4 + i
    · subst e2; rw [h1, LE_S hi]
    · rw [h2 j e2, eu_n e2, LE_kS e]
theorem LE_nB {E1 : Nat → va_E} {x : va_E} (hi : i < 6) (h1 : E1 (o + 14 + i) = ob0 i) (h2 : ∀ j, j ≠ o + 14 + i → E1 j = eu (LE X b E o 10 i 0) (o + 14 + i) x j) : ∀ j, j < o + 14 + (i + 1) → LE X b E o 10 (i + 1) 0 j = eu E1 (o + 2) (aq X 3 6 (va_up (rowsK b i (o + 14)) i (some (b + (o + 14 + i))))) j := by
  intro j hj
  by_cases e : j = o + 2
  · subst e; rw [eu_s, LE_2, rowsK_s]
  · rw [eu_n e]
    by_cases e2 : j = o + 14 + i
    · subst e2; rw [h1, LE_B hi]
    · rw [h2 j e2, eu_n e2, LE_kB e]
theorem LE_nP {E1 : Nat → va_E} {x : va_E} (h1 : E1 (o + 20 + i) = ob2) (h2 : ∀ j, j ≠ o + 20 + i → E1 j = eu (LE X b E o 10 6 i) (o + 20 + i) x j) : ∀ j, j < o + 20 + (i + 1) → LE X b E o 10 6 (i + 1) j = eu E1 (o + 3) (aq X 4 50 (va_up (rowsK b i (o + 20)) i (some (b + (o + 20 + i))))) j := by
  intro j hj
  by_cases e : j = o + 3
  · subst e; rw [eu_s, LE_3, rowsK_s]
  · rw [eu_n e]
    by_cases e2 : j = o + 20 + i
    · subst e2; rw [h1, LE_P]
    · rw [h2 j e2, eu_n e2, LE_kP e]
end LEs
theorem LE_E {X : CX} {b o kS kB kP i : Nat} {E E' : Nat → va_E} (h : o ≤ i) : LE X b E o kS kB kP i = LE X b E' o kS kB kP i := by
  have h1 : ¬ i < o := by omega
  simp only [LE, if_neg h1]
end
section
/-! the constructor of a line -/
set_option maxHeartbeats 1000000 in
set_option maxRecDepth 100000 in
theorem metX1_init (l : Launch) (X : CX) (b : Nat) (E : Nat → va_E) {o : Nat} (he : E o = .inr (1, [.null, .null, .null, .int 0, .int 0, .int 0, .int 0])) : Met l yX1_init (wsg yX1_init cX1_init 2 none) ({ frames := 2, cells := 69, slots := 538, locals := 45 }) (PreN X b (o + 1) E [.ref (b + o)]) (QvN X b (o + 70) (fun E1 => E1 = LE X b E o 10 6 50)) 69 538 (AB b) := by
  refine Met.ofW (cc := cX1_init) (maxL := 2) (ret := none) (by decide) rfl ?_
  intro p e s m args below meth c s₁ Bo hml hv
  obtain ⟨rfl, hW, hK, hA⟩ := hv
  have hx := Bo.exec
  have hb := Bo.bytes
  have hr := Bo.returns
  have hts := hts_of (atoms_spec (ws := wsg yX1_init cX1_init 2 none) Bo.pre)
  have hown : s.vm.findClass RX1 = some m.cls := findClass_of_methodNamed Bo.named
  have hlocks := Bo.notSynchronized
  have hin2 : meth.name = "<init>" := (name_of_methodNamed Bo.named Bo.method).1
  have hS : va_S (AB b) s.heap s.heap [] := va_S.rf
  have hl := lv_entry ([.ref (b + o)]) (n := 2) (Nat.le_of_ble_eq_true rfl)
  rw [lg_entry_eq]
  generalize (lg_sl ([.ref (b + o)]) ++ List.replicate (2 - (lg_sl ([.ref (b + o)])).length) Slot.unset).toArray = ls at hl ⊢
  have hl : lv_has ls 2 [(0, .ref (b + o))] := hl
  refine lv_aload_n hx hb dX1_init_0 rfl (lv_at hl 0 rfl) ?_
  refine k_obj hx hb hml hts hown q_332 hl.1 dX1_init_1 (Nat.le_of_ble_eq_true rfl) (Nat.le_of_ble_eq_true rfl) ?_
  refine lv_aload_n hx hb dX1_init_4 rfl (lv_at hl 0 rfl) ?_
  refine lv_bipush (v := 10) hx hb dX1_init_5 (by decide) ?_
  refine k_newq hx hb 2 hts hown q_333 hA.1 hK rfl hW hS 10 rfl (by decide) (Nat.le_of_ble_eq_true rfl) (Nat.le_of_ble_eq_true rfl) dX1_init_7 (fun H hW hS => ?_)
  refine k_putF hx hb hts inX1 tyX1 tyX1_ok nmX1 hown hK hW hS (by omega) (((eu_n (by omega)).trans he)) rfl 0 (by decide) q_432 (fun _ h => h) rfl hin2 rfl rfl rfl (Nat.le_of_ble_eq_true rfl) dX1_init_10 (fun H locs hW hS => ?_)
  refine lv_aload_n hx hb dX1_init_13 rfl (lv_at hl 0 rfl) ?_
  refine lv_bipush (v := 6) hx hb dX1_init_14 (by decide) ?_
  refine k_newq hx hb 3 hts hown q_335 hA.2.1 hK rfl hW hS 6 rfl (by decide) (Nat.le_of_ble_eq_true rfl) (Nat.le_of_ble_eq_true rfl) dX1_init_16 (fun H hW hS => ?_)
  refine k_putF hx hb hts inX1 tyX1 tyX1_ok nmX1 hown hK hW hS (by omega) (((eu_n (by omega)).trans eu_s)) rfl 1 (by decide) q_433 (fun _ h => h) rfl hin2 rfl rfl rfl (Nat.le_of_ble_eq_true rfl) dX1_init_19 (fun H locs hW hS => ?_)
  refine lv_aload_n hx hb dX1_init_22 rfl (lv_at hl 0 rfl) ?_
  refine lv_bipush (v := 50) hx hb dX1_init_23 (by decide) ?_
  refine k_newq hx hb 4 hts hown q_337 hA.2.2 hK rfl hW hS 50 rfl (by decide) (Nat.le_of_ble_eq_true rfl) (Nat.le_of_ble_eq_true rfl) dX1_init_25 (fun H hW hS => ?_)
  refine k_putF hx hb hts inX1 tyX1 tyX1_ok nmX1 hown hK hW hS (by omega) (((eu_n (by omega)).trans eu_s)) rfl 2 (by decide) q_435 (fun _ h => h) rfl hin2 rfl rfl rfl (Nat.le_of_ble_eq_true rfl) dX1_init_28 (fun H locs hW hS => ?_)
  have hW : cw X b (o + 4) (LE X b E o 0 0 0) H := cw_congr hW LE_start
  refine lv_iconst (v := 0) hx hb dX1_init_31 (by decide) ?_
  refine lv_istore_n (lv' := [(1, .int 0), (0, .ref (b + o))]) hx hb dX1_init_32 rfl hl (by decide) rfl (fun ls hl => ?_)
  refine w_loopN 10 (fun i => o + 4 + i) (fun i => LE X b E o i 0 0) (fun i => [(1, .int (nI i)), (0, .ref (b + o))]) (fun i => 3 + i) (fun i => 66 + 3 * i) ⟨rfl, rfl⟩ hW hS hl ?_
  clear hW hS hl
  intro i H locs ls hi hW hS hl ih
  replace hl : lv_has ls 2 [(1, .int (nI i)), (0, .ref (b + o))] := hl
  replace hW : cw X b (o + 4 + i) (LE X b E o i 0 0) H := hW
  refine lv_iload_n hx hb dX1_init_33 rfl (lv_at hl 0 rfl) ?_
  refine lv_bipush (v := 10) hx hb dX1_init_34 (by decide) ?_
  refine lv_icmp_ge (tgt := 61) hx hb dX1_init_36 (by decide) (fun c_1 => ?_) (fun c_1 => ?_)
  · have hin := br_le (show (10 : Int32) = nI 10 from rfl) rfl (by omega) (by omega) c_1
    obtain rfl : 10 = i := by omega
    refine lv_iconst (v := 0) hx hb dX1_init_61 (by decide) ?_
    refine lv_istore_n (lv' := [(1, .int 0), (0, .ref (b + o))]) hx hb dX1_init_62 rfl hl (by decide) rfl (fun ls hl => ?_)
    refine w_loopN 6 (fun i => o + 14 + i) (fun i => LE X b E o 10 i 0) (fun i => [(1, .int (nI i)), (0, .ref (b + o))]) (fun i => 13 + i) (fun i => 96 + 7 * i) ⟨rfl, rfl⟩ hW hS hl ?_
    clear hW hS hl
    intro i H locs ls hi hW hS hl ih
    replace hl : lv_has ls 2 [(1, .int (nI i)), (0, .ref (b + o))] := hl
    replace hW : cw X b (o + 14 + i) (LE X b E o 10 i 0) H := hW
    refine lv_iload_n hx hb dX1_init_63 rfl (lv_at hl 0 rfl) ?_
    refine lv_bipush (v := 6) hx hb dX1_init_64 (by decide) ?_
    refine lv_icmp_ge (tgt := 89) hx hb dX1_init_66 (by decide) (fun c_1 => ?_) (fun c_1 => ?_)
    · have hin := br_le (show (6 : Int32) = nI 6 from rfl) rfl (by omega) (by omega) c_1
      obtain rfl : 6 = i := by omega
      refine lv_iconst (v := 0) hx hb dX1_init_89 (by decide) ?_
      refine lv_istore_n (lv' := [(1, .int 0), (0, .ref (b + o))]) hx hb dX1_init_90 rfl hl (by decide) rfl (fun ls hl => ?_)
      refine w_loopN 50 (fun i => o + 20 + i) (fun i => LE X b E o 10 6 i) (fun i => [(1, .int (nI i)), (0, .ref (b + o))]) (fun i => 19 + i) (fun i => 138 + 8 * i) ⟨rfl, rfl⟩ hW hS hl ?_
      clear hW hS hl
      intro i H locs ls hi hW hS hl ih
      replace hl : lv_has ls 2 [(1, .int (nI i)), (0, .ref (b + o))] := hl
      replace hW : cw X b (o + 20 + i) (LE X b E o 10 6 i) H := hW
      refine lv_iload_n hx hb dX1_init_91 rfl (lv_at hl 0 rfl) ?_
      refine lv_bipush (v := 50) hx hb dX1_init_92 (by decide) ?_
      refine lv_icmp_ge (tgt := 116) hx hb dX1_init_94 (by decide) (fun c_1 => ?_) (fun c_1 => ?_)
      · have hin := br_le (show (50 : Int32) = nI 50 from rfl) rfl (by omega) (by omega) c_1
        obtain rfl : 50 = i := by omega
        exact W.vret hx hb hr (fun t9 ht9 _ => ⟨⟨_, rfl, rfl, cw_h ht9 hW⟩, hS.F ht9⟩) hS.2.2 dX1_init_116
      · have hin : i < 50 := br_nle (show (50 : Int32) = nI 50 from rfl) rfl (by omega) (by omega) c_1
        have hcell : (19 + i) + 1 ≤ 69 := by omega
        refine lv_aload_n hx hb dX1_init_97 rfl (lv_at hl 1 rfl) ?_
        refine k_get hx hb hts inX1 hown hK hW (by omega) (LE_o) rfl 2 (by decide) q_435 (fun _ h => h) rfl dX1_init_98 ?_
        refine lv_iload_n hx hb dX1_init_101 rfl (lv_at hl 0 rfl) ?_
        have hsl : (138 + 8 * i) + 8 ≤ 538 := by omega
        refine k_new (ci := 2) (fs := [.int 0, .int 0, .int 0, .int 0, .int 0, .int 0, .int 0, .int 0]) hx hb hts inX2 tyX2 tyX2_ok hown q_337 q_394 q_5 hK hW hS rfl (by decide +kernel) (hcell) (hsl) dX1_init_102 (fun H hW hS => ?_)
        refine lv_dup hx hb dX1_init_105 rfl ?_
        refine k_vN (c_I0 ⟨hx, hb, hml, hown, hts⟩ (metX2_init l X b (eu (LE X b E o 10 6 i) (o + 20 + i) (.inr (2, [.int 0, .int 0, .int 0, .int 0, .int 0, .int 0, .int 0, .int 0]))) (n := o + 20 + i + 1) (i := o + 20 + i) (Nat.lt_succ_self _) eu_s) hK hA hW q_395 q_396 q_5 q_397 hX2_init rfl ⟨Nat.le_of_ble_eq_true rfl, Nat.le_of_ble_eq_true rfl, rfl, rfl⟩ rfl dX1_init_106 rfl hl.1 (Nat.le_of_ble_eq_true rfl) ⟨by show 19 + i + 1 + 0 ≤ 69; omega, by show 138 + 8 * i + 8 + 0 ≤ 538; omega⟩) hS (fun E1 H locs hE hW hS => ?_)
        obtain ⟨hE1, hE2⟩ := hE
        have hE3 : E1 (o + 3) = _ := (hE2 _ (by omega)).trans ((eu_n (by omega)).trans LE_3)
        refine k_astq (t0 := 4) (i := o + 3) (v := o + 20 + i) hx hb hK hW hS (by omega) (by omega) hE3 rfl hE1 rfl i rfl hin (by decide) dX1_init_109 (fun H locs hW hS => ?_)
        refine lv_iinc (v := nI (i + 1)) (lv' := [(1, .int (nI (i + 1))), (0, .ref (b + o))]) hx hb dX1_init_110 hl (k := 0) rfl (by rw [← nI_1]; rfl) (by decide) rfl (fun ls hl => ?_)
        refine lv_goto (tgt := 91) hx hb dX1_init_113 (by decide) ?_
        exact ih hin H locs ls (cw_congr hW (LE_nP hE1 hE2)) hS hl
    · have hin : i < 6 := br_nle (show (6 : Int32) = nI 6 from rfl) rfl (by omega) (by omega) c_1
      have hcell : (13 + i) + 1 ≤ 69 := by omega
      refine lv_aload_n hx hb dX1_init_69 rfl (lv_at hl 1 rfl) ?_
      refine k_get hx hb hts inX1 hown hK hW (by omega) (LE_o) rfl 1 (by decide) q_433 (fun _ h => h) rfl dX1_init_70 ?_
      refine lv_iload_n hx hb dX1_init_73 rfl (lv_at hl 0 rfl) ?_
      have hsl : (96 + 7 * i) + 7 ≤ 538 := by omega
      refine k_new (ci := 0) (fs := [.int 0, .int 0, .int 0, .int 0, .int 0, .int 0, .int 0]) hx hb hts inX0 tyX0 tyX0_ok hown q_335 q_359 q_4 hK hW hS rfl (by decide +kernel) (hcell) (hsl) dX1_init_74 (fun H hW hS => ?_)
      refine lv_dup hx hb dX1_init_77 rfl ?_
      refine lv_iload_n hx hb dX1_init_78 rfl (lv_at hl 0 rfl) ?_
      refine k_vN (c_I0 ⟨hx, hb, hml, hown, hts⟩ (metX0_init l X b (eu (LE X b E o 10 i 0) (o + 14 + i) (.inr (0, [.int 0, .int 0, .int 0, .int 0, .int 0, .int 0, .int 0]))) (n := o + 14 + i + 1) (i := o + 14 + i) (Nat.lt_succ_self _) (nI i) eu_s) hK hA hW q_360 q_361 q_4 q_362 hX0_init rfl ⟨Nat.le_of_ble_eq_true rfl, Nat.le_of_ble_eq_true rfl, rfl, rfl⟩ rfl dX1_init_79 rfl hl.1 (Nat.le_of_ble_eq_true rfl) ⟨by show 13 + i + 1 + 0 ≤ 69; omega, by show 96 + 7 * i + 7 + 0 ≤ 538; omega⟩) hS (fun E1 H locs hE hW hS => ?_)
      obtain ⟨hE1, hE2⟩ := hE
      have hE3 : E1 (o + 2) = _ := (hE2 _ (by omega)).trans ((eu_n (by omega)).trans LE_2)
      refine k_astq (t0 := 3) (i := o + 2) (v := o + 14 + i) hx hb hK hW hS (by omega) (by omega) hE3 rfl hE1 rfl i rfl hin (by decide) dX1_init_82 (fun H locs hW hS => ?_)
      refine lv_iinc (v := nI (i + 1)) (lv' := [(1, .int (nI (i + 1))), (0, .ref (b + o))]) hx hb dX1_init_83 hl (k := 0) rfl (by rw [← nI_1]; rfl) (by decide) rfl (fun ls hl => ?_)
      refine lv_goto (tgt := 63) hx hb dX1_init_86 (by decide) ?_
      exact ih hin H locs ls (cw_congr hW (LE_nB hin hE1 hE2)) hS hl
  · have hin : i < 10 := br_nle (show (10 : Int32) = nI 10 from rfl) rfl (by omega) (by omega) c_1
    have hcell : (3 + i) + 1 ≤ 69 := by omega
    refine lv_aload_n hx hb dX1_init_39 rfl (lv_at hl 1 rfl) ?_
    refine k_get hx hb hts inX1 hown hK hW (by omega) (LE_o) rfl 0 (by decide) q_432 (fun _ h => h) rfl dX1_init_40 ?_
    refine lv_iload_n hx hb dX1_init_43 rfl (lv_at hl 0 rfl) ?_
    have hsl : (66 + 3 * i) + 3 ≤ 538 := by omega
    refine k_new (ci := 3) (fs := [.int 0, .int 0, .int 0]) hx hb hts inX3 tyX3 tyX3_ok hown q_333 q_339 q_3 hK hW hS rfl (by decide +kernel) (hcell) (hsl) dX1_init_44 (fun H hW hS => ?_)
    refine lv_dup hx hb dX1_init_47 rfl ?_
    refine lv_iload_n hx hb dX1_init_48 rfl (lv_at hl 0 rfl) ?_
    refine lv_iconst (v := 2) hx hb dX1_init_49 (by decide) ?_
    refine lv_idiv hx hb dX1_init_50 (by decide) ?_
    refine w_top (y := nI (i / 2)) (by rw [show (2 : Int32) = nI 2 from rfl, pk_div (by omega) (by decide) (by decide)]) ?_
    refine k_vN (c_I0 ⟨hx, hb, hml, hown, hts⟩ (metX3_init l X b (eu (LE X b E o i 0 0) (o + 4 + i) (.inr (3, [.int 0, .int 0, .int 0]))) (n := o + 4 + i + 1) (i := o + 4 + i) (Nat.lt_succ_self _) (nI (i / 2)) eu_s) hK hA hW q_340 q_341 q_3 q_342 hX3_init rfl ⟨Nat.le_of_ble_eq_true rfl, Nat.le_of_ble_eq_true rfl, rfl, rfl⟩ rfl dX1_init_51 rfl hl.1 (Nat.le_of_ble_eq_true rfl) ⟨by show 3 + i + 1 + 0 ≤ 69; omega, by show 66 + 3 * i + 3 + 0 ≤ 538; omega⟩) hS (fun E1 H locs hE hW hS => ?_)
    obtain ⟨hE1, hE2⟩ := hE
    have hE3 : E1 (o + 1) = _ := (hE2 _ (by omega)).trans ((eu_n (by omega)).trans LE_1)
    refine k_astq (t0 := 2) (i := o + 1) (v := o + 4 + i) hx hb hK hW hS (by omega) (by omega) hE3 rfl hE1 rfl i rfl hin (by decide) dX1_init_54 (fun H locs hW hS => ?_)
    refine lv_iinc (v := nI (i + 1)) (lv' := [(1, .int (nI (i + 1))), (0, .ref (b + o))]) hx hb dX1_init_55 hl (k := 0) rfl (by rw [← nI_1]; rfl) (by decide) rfl (fun ls hl => ?_)
    refine lv_goto (tgt := 33) hx hb dX1_init_58 (by decide) ?_
    exact ih hin H locs ls (cw_congr hW (LE_nS hin hE1 hE2)) hS hl
end
section
/-! the constructor of the class -/
set_option maxHeartbeats 1000000 in
set_option maxRecDepth 100000 in
theorem metX4_init (l : Launch) (X : CX) (b : Nat) (E : Nat → va_E) (he : E 0 = .inr (4, [.null, .null])) : Met l yX4_init (wsg yX4_init cX4_init 1 none) ({ frames := 3, cells := 140, slots := 1090, locals := 66 }) (PreN X b (1) E [.ref (b + 0)]) (QvN X b (141) (fun E1 => E1 0 = .inr (4, [.ref (b + 1), .ref (b + 71)]) ∧ (∀ i, 1 ≤ i → i < 71 → E1 i = LE X b E 1 10 6 50 i) ∧ (∀ i, 71 ≤ i → i < 141 → E1 i = LE X b E 71 10 6 50 i))) 140 1090 (AB b) := by
  refine Met.ofW (cc := cX4_init) (maxL := 1) (ret := none) (by decide) rfl ?_
  intro p e s m args below meth c s₁ Bo hml hv
  obtain ⟨rfl, hW, hK, hA⟩ := hv
  have hx := Bo.exec
  have hb := Bo.bytes
  have hr := Bo.returns
  have hts := hts_of (atoms_spec (ws := wsg yX4_init cX4_init 1 none) Bo.pre)
  have hown : s.vm.findClass RX4 = some m.cls := findClass_of_methodNamed Bo.named
  have hlocks := Bo.notSynchronized
  have hin2 : meth.name = "<init>" := (name_of_methodNamed Bo.named Bo.method).1
  have hS : va_S (AB b) s.heap s.heap [] := va_S.rf
  have hl := lv_entry ([.ref (b + 0)]) (n := 1) (Nat.le_of_ble_eq_true rfl)
  rw [lg_entry_eq]
  generalize (lg_sl ([.ref (b + 0)]) ++ List.replicate (1 - (lg_sl ([.ref (b + 0)])).length) Slot.unset).toArray = ls at hl ⊢
  have hl : lv_has ls 1 [(0, .ref (b + 0))] := hl
  refine lv_aload_n hx hb dX4_init_0 rfl (lv_at hl 0 rfl) ?_
  refine k_obj hx hb hml hts hown q_326 hl.1 dX4_init_1 (Nat.le_of_ble_eq_true rfl) (Nat.le_of_ble_eq_true rfl) ?_
  refine lv_aload_n hx hb dX4_init_4 rfl (lv_at hl 0 rfl) ?_
  refine k_new (ci := 1) (fs := [.null, .null, .null, .int 0, .int 0, .int 0, .int 0]) hx hb hts inX1 tyX1 tyX1_ok hown q_327 q_328 q_2 hK hW hS rfl (by decide +kernel) (Nat.le_of_ble_eq_true rfl) (Nat.le_of_ble_eq_true rfl) dX4_init_5 (fun H hW hS => ?_)
  refine lv_dup hx hb dX4_init_8 rfl ?_
  refine k_vN (c_I0 ⟨hx, hb, hml, hown, hts⟩ (metX1_init l X b _ (o := 1) eu_s) hK hA hW q_329 q_330 q_2 q_331 hX1_init rfl ⟨Nat.le_of_ble_eq_true rfl, Nat.le_of_ble_eq_true rfl, rfl, rfl⟩ rfl dX4_init_9 rfl hl.1 (Nat.le_of_ble_eq_true rfl) ⟨Nat.le_of_ble_eq_true rfl, Nat.le_of_ble_eq_true rfl⟩) hS (fun E1 H locs hE hW hS => ?_)
  subst hE
  refine k_putF hx hb hts inX4 tyX4 tyX4_ok nmX4 hown hK hW hS (by omega) ((LE_lt (by omega)).trans ((eu_n (by omega)).trans he)) rfl 0 (by decide) q_460 (fun _ h => h) rfl hin2 rfl rfl rfl (Nat.le_of_ble_eq_true rfl) dX4_init_12 (fun H locs hW hS => ?_)
  refine lv_aload_n hx hb dX4_init_15 rfl (lv_at hl 0 rfl) ?_
  refine k_new (ci := 1) (fs := [.null, .null, .null, .int 0, .int 0, .int 0, .int 0]) hx hb hts inX1 tyX1 tyX1_ok hown q_327 q_328 q_2 hK hW hS rfl (by decide +kernel) (Nat.le_of_ble_eq_true rfl) (Nat.le_of_ble_eq_true rfl) dX4_init_16 (fun H hW hS => ?_)
  refine lv_dup hx hb dX4_init_19 rfl ?_
  refine k_vN (c_I0 ⟨hx, hb, hml, hown, hts⟩ (metX1_init l X b _ (o := 71) eu_s) hK hA hW q_329 q_330 q_2 q_331 hX1_init rfl ⟨Nat.le_of_ble_eq_true rfl, Nat.le_of_ble_eq_true rfl, rfl, rfl⟩ rfl dX4_init_20 rfl hl.1 (Nat.le_of_ble_eq_true rfl) ⟨Nat.le_of_ble_eq_true rfl, Nat.le_of_ble_eq_true rfl⟩) hS (fun E1 H locs hE hW hS => ?_)
  subst hE
  refine k_putF hx hb hts inX4 tyX4 tyX4_ok nmX4 hown hK hW hS (by omega) ((LE_lt (by omega)).trans ((eu_n (by omega)).trans eu_s)) rfl 1 (by decide) q_461 (fun _ h => h) rfl hin2 rfl rfl rfl (Nat.le_of_ble_eq_true rfl) dX4_init_23 (fun H locs hW hS => ?_)
  exact W.vret hx hb hr (fun t9 ht9 _ => ⟨⟨_, rfl, ⟨eu_s, fun i h1 h2 => (by rw [eu_n (by omega), LE_lt h2, eu_n (by omega), eu_n (by omega)]; exact LE_E h1), fun i h1 h2 => (by rw [eu_n (by omega)]; exact LE_E h1)⟩, cw_h ht9 hW⟩, hS.F ht9⟩) hS.2.2 dX4_init_26
end
section
/-! the world behind the law's making -/
theorem g00_S {o k : Nat} (ho : isL o) (hk : k < 10) : g00 (o + 4 + k) 0 = 2 ∧ g00 (o + 4 + k) 1 = nI (k / 2) ∧ g00 (o + 4 + k) 2 = -1 := by
  unfold isL at ho
  refine ⟨?_, ?_, ?_⟩
  · unfold g00; rw [if_pos (by omega), if_pos rfl]
  · unfold g00; rw [if_pos (by omega), if_neg (by decide), if_pos rfl]
    rcases ho with rfl | rfl
    · rw [if_pos (by omega), show 1 + 4 + k - 5 = k by omega]
    · rw [if_neg (by omega), show 71 + 4 + k - 75 = k by omega]
  · unfold g00; rw [if_pos (by omega), if_neg (by decide), if_neg (by decide), if_pos rfl]
theorem g00_B {o k : Nat} (ho : isL o) (hk : k < 6) : g00 (o + 14 + k) 0 = nI k ∧ ∀ j, j ≠ 0 → g00 (o + 14 + k) j = 0 := by
  unfold isL at ho
  refine ⟨?_, fun j hj => ?_⟩
  · unfold g00; rw [if_neg (by omega), if_pos (by omega), if_pos rfl]
    rcases ho with rfl | rfl
    · rw [if_pos (by omega), show 1 + 14 + k - 15 = k by omega]
    · rw [if_neg (by omega), show 71 + 14 + k - 85 = k by omega]
  · unfold g00; rw [if_neg (by omega), if_pos (by omega), if_neg hj]
theorem g00_P {o k : Nat} (ho : isL o) (hk : k < 50) : ∀ j, g00 (o + 20 + k) j = if j = 3 ∨ j = 6 then -1 else 0 := by
  unfold isL at ho
  intro j
  unfold g00; rw [if_neg (by omega), if_neg (by omega), if_pos (by omega)]
theorem g00_L {o k : Nat} (ho : isL o) : g00 o k = 0 := by
  unfold isL at ho
  unfold g00; rw [if_neg (by omega), if_neg (by omega), if_neg (by omega)]
theorem ofFn_congr {N : Nat} {f f' : Nat → Value} (h : ∀ j, j < N → f j = f' j) (cA : ClassId) : arrV cA N f = arrV cA N f' := by
  unfold arrV
  have : (fun j : Fin N => f j.val) = (fun j : Fin N => f' j.val) := by funext j; exact h j.val j.isLt
  rw [this]
theorem at_aq {X : CX} {a t N : Nat} {f f' : Nat → Option Nat} {H : Heap} (h : va_at X.1 vwCl (a, aq X t N f) H) (hf : ∀ j, j < N → f j = f' j) : va_at X.1 vwCl (a, .inl (X.2 t, N, .inr (.inr (.inr (.inr f'))))) H := by
  have h1 : H[a]? = some (vp_cell (X.2 t) (N, .inr (.inr (.inr (.inr f))))) := h
  show H[a]? = some (vp_cell (X.2 t) (N, .inr (.inr (.inr (.inr f')))))
  rw [h1, vp_cell_q, vp_cell_q, ofFn_congr (fun j hj => by rw [hf j hj])]
theorem line_at {X : CX} {b o : Nat} {E : Nat → va_E} {w : Int64} {H : Heap} (ho : isL o) {i : Nat} (h1 : o ≤ i) (h2 : i < o + 70) (h : va_at X.1 vwCl (b + i, LE X b E o 10 6 50 i) H) : va_at X.1 vwCl (b + i, Ent X b g00 w i) H := by
  rcases (by omega : i = o ∨ i = o + 1 ∨ i = o + 2 ∨ i = o + 3 ∨ (o + 4 ≤ i ∧ i < o + 14) ∨ (o + 14 ≤ i ∧ i < o + 20) ∨ o + 20 ≤ i) with rfl | rfl | rfl | rfl | q | q | q
  · rw [LE_o] at h
    rw [Ent_L ho, g00_L ho, g00_L ho, g00_L ho, g00_L ho]
    exact h
  · rw [LE_1] at h
    rw [Ent_aS ho]
    exact at_aq h (fun j hj => by unfold rowsK; rw [if_pos hj])
  · rw [LE_2] at h
    rw [Ent_aB ho]
    exact at_aq h (fun j hj => by unfold rowsK; rw [if_pos hj])
  · rw [LE_3] at h
    rw [Ent_aP ho]
    exact at_aq h (fun j hj => by unfold rowsK; rw [if_pos hj])
  · obtain ⟨k, rfl⟩ : ∃ k, i = o + 4 + k := ⟨i - (o + 4), by omega⟩
    obtain ⟨e0, e1, e2⟩ := g00_S ho (k := k) (by omega)
    rw [LE_S (by omega)] at h
    rw [Ent_S (isS_of ho (by omega)), e0, e1, e2]
    exact h
  · obtain ⟨k, rfl⟩ : ∃ k, i = o + 14 + k := ⟨i - (o + 14), by omega⟩
    obtain ⟨e0, e1⟩ := g00_B ho (k := k) (by omega)
    rw [LE_B (by omega)] at h
    rw [Ent_B (isB_of ho (by omega)), e0, e1 _ (by decide), e1 _ (by decide), e1 _ (by decide), e1 _ (by decide), e1 _ (by decide), e1 _ (by decide)]
    exact h
  · obtain ⟨k, rfl⟩ : ∃ k, i = o + 20 + k := ⟨i - (o + 20), by omega⟩
    have e := g00_P ho (k := k) (by omega)
    rw [LE_P] at h
    rw [Ent_P (isP_of ho (by omega)), e, e, e, e, e, e, e, e]
    exact h
theorem wd_born {X : CX} {b : Nat} {E E1 E2 : Nat → va_E} {H : Heap} (h : cw X b 141 E H) (h0 : E 0 = .inr (4, [.ref (b + 1), .ref (b + 71)])) (h1 : ∀ i, 1 ≤ i → i < 71 → E i = LE X b E1 1 10 6 50 i) (h2 : ∀ i, 71 ≤ i → i < 141 → E i = LE X b E2 71 10 6 50 i) : wd X b g00 0 H := by
  refine ⟨Nat.le_of_eq h.1.symm, fun i hi => ?_⟩
  have ha := h.2 i hi
  rcases (by omega : i = 0 ∨ (1 ≤ i ∧ i < 71) ∨ (71 ≤ i ∧ i < 141)) with rfl | q | q
  · rw [h0] at ha; rw [Ent_0]; exact ha
  · rw [h1 i q.1 q.2] at ha; exact line_at (Or.inl rfl) q.1 (by omega) ha
  · rw [h2 i q.1 q.2] at ha; exact line_at (Or.inr rfl) q.1 (by omega) ha
end
section
/-! two lines that hold the same: a minute leaves them the same (the trial beside the line) -/
theorem f_cnt_congr {s s' : Nat → Int32} {a : Nat} (h : ∀ i, i < 10 → s i = s' i) : ∀ n, f_cnt s a n = f_cnt s' a n
  | 0 => rfl
  | n + 1 => by
    unfold f_cnt
    rw [f_cnt_congr h n, h _ (Nat.mod_lt _ (by decide)), h _ (Nat.mod_lt _ (by decide))]
theorem f_fareI_congr {s s' : Nat → Int32} {x y : Int32} (h : ∀ i, i < 10 → s i = s' i) : f_fareI s x y = f_fareI s' x y := by
  unfold f_fareI f_fare
  rw [f_cnt_congr h]
def Eqv (o t nb np : Nat) (g d : S2) : Prop :=
  (∀ k, 3 ≤ k → k < 7 → g o k = d t k) ∧ (∀ i k, i < 10 → k < 3 → g (o + 4 + i) k = d (t + 4 + i) k) ∧ (∀ j k, j < nb → k < 7 → g (o + 14 + j) k = d (t + 14 + j) k) ∧ (∀ p k, p < np → k < 8 → g (o + 20 + p) k = d (t + 20 + p) k)
section EQ
variable {o t nb np : Nat} {g d : S2}
theorem Eqv.u (h : Eqv o t nb np g d) {a k : Nat} {x y : Int32} (e : x = y) : Eqv o t nb np (u2 g (o + a) k x) (u2 d (t + a) k y) := by
  obtain ⟨h1, h2, h3, h4⟩ := h
  refine ⟨fun j q1 q2 => ?_, fun i j hi hj => ?_, fun i j hi hj => ?_, fun i j hi hj => ?_⟩
  · rw [u2_app, u2_app]
    by_cases z : a = 0 ∧ j = k
    · rw [if_pos (by omega), if_pos (by omega)]; exact e
    · rw [if_neg (by omega), if_neg (by omega)]; exact h1 j q1 q2
  · rw [u2_app, u2_app]
    by_cases z : 4 + i = a ∧ j = k
    · rw [if_pos (by omega), if_pos (by omega)]; exact e
    · rw [if_neg (by omega), if_neg (by omega)]; exact h2 i j hi hj
  · rw [u2_app, u2_app]
    by_cases z : 14 + i = a ∧ j = k
    · rw [if_pos (by omega), if_pos (by omega)]; exact e
    · rw [if_neg (by omega), if_neg (by omega)]; exact h3 i j hi hj
  · rw [u2_app, u2_app]
    by_cases z : 20 + i = a ∧ j = k
    · rw [if_pos (by omega), if_pos (by omega)]; exact e
    · rw [if_neg (by omega), if_neg (by omega)]; exact h4 i j hi hj
theorem Eqv.S (h : Eqv o t nb np g d) {i k : Nat} {x y : Int32} (e : x = y) : Eqv o t nb np (u2 g (o + 4 + i) k x) (u2 d (t + 4 + i) k y) := by
  rw [Nat.add_assoc o, Nat.add_assoc t]; exact h.u e
theorem Eqv.B (h : Eqv o t nb np g d) {i k : Nat} {x y : Int32} (e : x = y) : Eqv o t nb np (u2 g (o + 14 + i) k x) (u2 d (t + 14 + i) k y) := by
  rw [Nat.add_assoc o, Nat.add_assoc t]; exact h.u e
theorem Eqv.P (h : Eqv o t nb np g d) {i k : Nat} {x y : Int32} (e : x = y) : Eqv o t nb np (u2 g (o + 20 + i) k x) (u2 d (t + 20 + i) k y) := by
  rw [Nat.add_assoc o, Nat.add_assoc t]; exact h.u e
theorem Eqv.L (h : Eqv o t nb np g d) {k : Nat} {x y : Int32} (e : x = y) : Eqv o t nb np (u2 g o k x) (u2 d t k y) := h.u (a := 0) e
theorem Eqv.fare (h : Eqv o t nb np g d) {x y : Int32} : f_fareI (stg g o) x y = f_fareI (stg d t) x y := f_fareI_congr (fun i hi => h.2.1 i 1 hi (by decide))
theorem eqv_off (h : Eqv o t nb np g d) {p : Nat} (hp : p < np) {x y : Int32} (e : x = y) : Eqv o t nb np (f_off g (o + 20 + p) x) (f_off d (t + 20 + p) y) := by
  unfold f_off
  exact (((h.P rfl).P (h.2.2.2 p 2 hp (by decide))).P rfl).P e
theorem eqv_offs {j : Nat} (hj : j < nb) : ∀ {n : Nat}, n ≤ np → Eqv o t nb np g d → Eqv o t nb np (f_offs g o (o + 14 + j) n).1 (f_offs d t (t + 14 + j) n).1 ∧ (f_offs g o (o + 14 + j) n).2 = (f_offs d t (t + 14 + j) n).2
  | 0, _, h => ⟨h, rfl⟩
  | n + 1, hn, h => by
    obtain ⟨i1, i2⟩ := eqv_offs hj (n := n) (by omega) h
    show Eqv o t nb np (f_offs1 o (o + 14 + j) n (f_offs g o (o + 14 + j) n)).1 (f_offs1 t (t + 14 + j) n (f_offs d t (t + 14 + j) n)).1 ∧ (f_offs1 o (o + 14 + j) n (f_offs g o (o + 14 + j) n)).2 = (f_offs1 t (t + 14 + j) n (f_offs d t (t + 14 + j) n)).2
    generalize f_offs g o (o + 14 + j) n = r at i1 i2 ⊢
    generalize f_offs d t (t + 14 + j) n = r' at i1 i2 ⊢
    unfold f_offs1
    rw [i1.2.2.2 n 0 (by omega) (by decide), i1.2.2.2 n 3 (by omega) (by decide), i1.2.2.2 n 2 (by omega) (by decide), i1.2.2.1 j 0 hj (by decide), i1.2.2.1 j 1 hj (by decide)]
    by_cases q : r'.1 (t + 20 + n) 0 = 1 ∧ r'.1 (t + 20 + n) 3 = r'.1 (t + 14 + j) 0 ∧ r'.1 (t + 20 + n) 2 = r'.1 (t + 14 + j) 1
    · rw [if_pos q, if_pos q]
      exact ⟨eqv_off i1 (by omega) (i1.1 5 (by decide) (by decide)), by show r.2 + 1 = r'.2 + 1; rw [i2]⟩
    · rw [if_neg q, if_neg q]; exact ⟨i1, i2⟩
theorem eqv_letOff {j : Nat} (hj : j < nb) (h : Eqv o t nb np g d) : Eqv o t nb np (f_letOff g o (o + 14 + j) np) (f_letOff d t (t + 14 + j) np) := by
  obtain ⟨i1, i2⟩ := eqv_offs hj (Nat.le_refl np) h
  unfold f_letOff
  exact i1.B (by rw [i2, i1.2.2.1 j 5 hj (by decide)])
theorem eqv_price (h : Eqv o t nb np g d) {p : Nat} (hp : p < np) : f_price g (o + 20 + p) (f_fareI (stg g o) (g (o + 20 + p) 1) (g (o + 20 + p) 2)) = f_price d (t + 20 + p) (f_fareI (stg d t) (d (t + 20 + p) 1) (d (t + 20 + p) 2)) := by
  unfold f_price
  rw [h.fare, h.2.2.2 p 1 hp (by decide), h.2.2.2 p 2 hp (by decide), h.2.2.2 p 7 hp (by decide)]
theorem eqv_board (h : Eqv o t nb np g d) {p j : Nat} (hp : p < np) (hj : j < nb) : Eqv o t nb np (f_board g o (o + 14 + j) (o + 20 + p)) (f_board d t (t + 14 + j) (t + 20 + p)) := by
  unfold f_board f_on
  rw [eqv_price h hp]
  refine Eqv.B (Eqv.B (Eqv.P (Eqv.P (Eqv.P (h.P rfl) rfl) ?_) ?_) ?_) ?_
  · exact h.2.2.1 j 0 hj (by decide)
  · rw [h.2.2.2 p 4 hp (by decide)]
  · rw [h.2.2.1 j 6 hj (by decide)]
  · rw [h.2.2.1 j 5 hj (by decide)]
theorem eqv_ons {j : Nat} (hj : j < nb) : ∀ {n : Nat}, n ≤ np → Eqv o t nb np g d → Eqv o t nb np (f_ons g o (o + 14 + j) n).1 (f_ons d t (t + 14 + j) n).1 ∧ (f_ons g o (o + 14 + j) n).2 = (f_ons d t (t + 14 + j) n).2
  | 0, _, h => ⟨h, rfl⟩
  | n + 1, hn, h => by
    obtain ⟨i1, i2⟩ := eqv_ons hj (n := n) (by omega) h
    show Eqv o t nb np (f_ons1 o (o + 14 + j) n (f_ons g o (o + 14 + j) n)).1 (f_ons1 t (t + 14 + j) n (f_ons d t (t + 14 + j) n)).1 ∧ (f_ons1 o (o + 14 + j) n (f_ons g o (o + 14 + j) n)).2 = (f_ons1 t (t + 14 + j) n (f_ons d t (t + 14 + j) n)).2
    generalize f_ons g o (o + 14 + j) n = r at i1 i2 ⊢
    generalize f_ons d t (t + 14 + j) n = r' at i1 i2 ⊢
    unfold f_ons1
    rw [i1.2.2.2 n 0 (by omega) (by decide), i1.2.2.2 n 1 (by omega) (by decide), i1.2.2.1 j 5 hj (by decide), i1.2.2.1 j 4 hj (by decide), i1.2.2.1 j 1 hj (by decide)]
    by_cases q : r'.1 (t + 14 + j) 5 < r'.1 (t + 14 + j) 4 ∧ r'.1 (t + 20 + n) 0 = 0 ∧ r'.1 (t + 20 + n) 1 = r'.1 (t + 14 + j) 1
    · rw [if_pos q, if_pos q]
      exact ⟨eqv_board i1 (by omega) hj, by show r.2 + 1 = r'.2 + 1; rw [i2]⟩
    · rw [if_neg q, if_neg q]; exact ⟨i1, i2⟩
theorem eqv_arr {j : Nat} (hj : j < nb) (h : Eqv o t nb np g d) : Eqv o t nb np (f_arr g (o + 14 + j)) (f_arr d (t + 14 + j)) := by
  unfold f_arr
  rw [h.2.2.1 j 3 hj (by decide), h.2.2.1 j 1 hj (by decide)]
  exact ((h.B rfl).B rfl).B rfl
theorem eqv_drive {j : Nat} (hj : j < nb) (h : Eqv o t nb np g d) : Eqv o t nb np (f_drive g o (o + 14 + j) np) (f_drive d t (t + 14 + j) np) := by
  have h1 := eqv_arr hj h
  obtain ⟨-, h2⟩ := eqv_offs hj (Nat.le_refl np) h1
  obtain ⟨h4, h5⟩ := eqv_ons hj (Nat.le_refl np) (eqv_letOff hj h1)
  unfold f_drive
  rw [h.2.2.1 j 3 hj (by decide), h2, h5]
  by_cases q : 0 < d (t + 14 + j) 3 - 1
  · rw [if_pos q, if_pos q]; exact h.B rfl
  · rw [if_neg q, if_neg q]; exact h4.B rfl
theorem eqv_std1 {j : Nat} (hj : j < nb) (h : Eqv o t nb np g d) : Eqv o t nb np (f_std1 g (o + 14 + j)) (f_std1 d (t + 14 + j)) := by
  unfold f_std1
  rw [h.2.2.1 j 3 hj (by decide)]
  by_cases q : 0 < d (t + 14 + j) 3
  · rw [if_pos q, if_pos q]; exact h.B rfl
  · rw [if_neg q, if_neg q]; exact h
theorem eqv_std2 {j : Nat} (hj : j < nb) (hc : cl (d (t + 14 + j) 1) < 10) (h : Eqv o t nb np g d) : Eqv o t nb np (f_std2 g o (o + 14 + j)) (f_std2 d t (t + 14 + j)) := by
  unfold f_std2 f_lets
  rw [h.2.2.1 j 3 hj (by decide), h.2.2.1 j 1 hj (by decide), h.1 5 (by decide) (by decide), h.1 6 (by decide) (by decide), h.2.1 _ 2 hc (by decide), h.2.1 _ 0 hc (by decide)]
  by_cases q : d (t + 14 + j) 3 = 0 ∧ (if d t 6 = 0 ∨ d (t + 4 + cl (d (t + 14 + j) 1)) 2 = -1 ∨ ¬ (d t 5 - d (t + 4 + cl (d (t + 14 + j) 1)) 2 < d t 6) then (1 : Int32) else 0) = 1
  · rw [if_pos q, if_pos q]; exact ((h.S rfl).B rfl).B rfl
  · rw [if_neg q, if_neg q]; exact h
theorem eqv_bus1 {j : Nat} (hj : j < nb) (hk : OkL t nb np d) (h : Eqv o t nb np g d) : Eqv o t nb np (f_bus1 g o np j) (f_bus1 d t np j) := by
  unfold f_bus1 f_stand
  rw [h.2.2.1 j 2 hj (by decide)]
  by_cases q : d (t + 14 + j) 2 = 0
  · rw [if_pos q, if_pos q]; exact eqv_std2 hj ((okl_std1 hk hj).2.2.2.1 j hj).1.cl.1 (eqv_std1 hj h)
  · rw [if_neg q, if_neg q]; exact eqv_drive hj h
theorem eqv_buses (hk : OkL t nb np d) (h : Eqv o t nb np g d) : ∀ {n : Nat}, n ≤ nb → Eqv o t nb np (f_buses g o np n) (f_buses d t np n)
  | 0, _ => h
  | n + 1, hn => eqv_bus1 (by omega) (okl_buses hk n (by omega)) (eqv_buses hk h (by omega))
theorem eqv_waitN (h : Eqv o t nb np g d) : ∀ {n : Nat}, n ≤ np → Eqv o t nb np (f_waitN g o n) (f_waitN d t n)
  | 0, _ => h
  | n + 1, hn => by
    have ih := eqv_waitN h (n := n) (by omega)
    unfold f_waitN f_wait1
    rw [ih.2.2.2 n 0 (by omega) (by decide), ih.2.2.2 n 5 (by omega) (by decide)]
    by_cases q : f_waitN d t n (t + 20 + n) 0 = 0
    · rw [if_pos q, if_pos q]; exact ih.P rfl
    · rw [if_neg q, if_neg q]; exact ih
theorem eqv_min (hk : OkL t nb np d) (h : Eqv o t nb np g d) : Eqv o t nb np (f_min g o nb np) (f_min d t nb np) := by
  unfold f_min f_tick
  have h1 := eqv_waitN (eqv_buses hk h (Nat.le_refl nb)) (Nat.le_refl np)
  exact h1.L (by rw [h1.1 5 (by decide) (by decide)])
theorem eqv_mins (hk : OkL t nb np d) (h : Eqv o t nb np g d) : ∀ n, Eqv o t nb np (f_mins g o nb np n) (f_mins d t nb np n)
  | 0 => h
  | n + 1 => eqv_min (okl_mins hk n) (eqv_mins hk h n)
end EQ
theorem eqv_copy {g : S2} {nb np : Nat} (h : OkL 1 nb np g) (hN : NumT g) : Eqv 71 1 nb np (f_copy g 71 1 nb np) g := by
  obtain ⟨h1, h2, h3, h4, h5⟩ := copy_at (g := g) (t := 71) (o := 1) LL71 h.1.2 h.2.1.2
  refine ⟨fun k q1 q2 => h5 k q1 q2, fun i k hi hk => h1 i k hi hk, fun j k hj hk => ?_, fun p k hp hk => h3 p k hp hk⟩
  rcases Nat.eq_zero_or_pos k with rfl | q
  · have h6 := h.1.2
    rw [h4 j (by omega), hN j (by omega), h.2.2.1 j (by omega)]
  · exact h2 j k hj q hk
end
section
/-! a minute of a line, bus by bus: what has come of the line g0 when n buses are done -/
theorem cnB_upd {A B : Nat → Bool} {p : Nat} (h : ∀ q, q ≠ p → A q = B q) : ∀ {n : Nat}, p < n → cnB A n + (if B p = true then 1 else 0) = cnB B n + (if A p = true then 1 else 0)
  | 0, hp => by omega
  | n + 1, hp => by
    show cnB A n + (if A n = true then 1 else 0) + _ = cnB B n + (if B n = true then 1 else 0) + _
    by_cases e : p = n
    · subst e
      rw [cnB_congr (q := A) (r := B) (fun k hk => h k (by omega))]
      omega
    · have ih := cnB_upd h (n := n) (by omega)
      rw [h n (Ne.symm e)]
      omega
theorem sumF_upd {f f' : Nat → Int32} {p : Nat} {x : Int32} (h : ∀ q, q ≠ p → f' q = f q) (hx : f' p = f p + x) : ∀ {n : Nat}, p < n → sumF f' n = sumF f n + x
  | 0, hp => by omega
  | n + 1, hp => by
    show sumF f' n + f' n = sumF f n + f n + x
    by_cases e : p = n
    · subst e
      rw [sumF_congr (q := f') (r := f) (fun k hk => h k (by omega)), hx, Int32.add_assoc]
    · rw [sumF_upd h hx (n := n) (by omega), h n (Ne.symm e), Int32.add_assoc, Int32.add_comm x, ← Int32.add_assoc]
theorem nI_ne {a b : Nat} (h : a ≠ b) (ha : a < 2000) (hb : b < 2000) : nI a ≠ nI b := fun q => h ((nI_eq (by omega) (by omega)).mp q)
def rid (g : S2) (o np j : Nat) : Nat := cnB (fun q => decide (g (o + 20 + q) 0 = 1 ∧ g (o + 20 + q) 3 = nI j)) np
theorem rid_congr {g g' : S2} {o np j : Nat} (h : ∀ q, q < np → g' (o + 20 + q) 0 = g (o + 20 + q) 0 ∧ g' (o + 20 + q) 3 = g (o + 20 + q) 3) : rid g' o np j = rid g o np j :=
  cnB_congr (fun q hq => by rw [(h q hq).1, (h q hq).2])
def prc (g : S2) (o p : Nat) : Int32 := f_price g (o + 20 + p) (f_fareI (stg g o) (g (o + 20 + p) 1) (g (o + 20 + p) 2))
def e1 (j n : Nat) : Nat → Nat := fun i => if i = j then n else 0
def PasR (t : Int32) (A : Nat → Int32) (nB nC : Nat) (pr : Int32) (u v : Nat → Int32) : Prop :=
  v 2 = u 2 ∧ v 5 = u 5 ∧ ((∀ k, k < 8 → v k = u k) ∨
   (u 0 = 0 ∧ v 0 = 1 ∧ v 1 = u 1 ∧ (∃ j, j < nB ∧ v 3 = nI j ∧ A j = u 1) ∧ v 4 = u 4 + pr ∧ v 6 = u 6 ∧ v 7 = 0) ∨
   (u 0 = 1 ∧ v 0 = 2 ∧ v 1 = u 2 ∧ (∃ j, j < nC ∧ u 3 = nI j ∧ A j = u 2) ∧ v 3 = -1 ∧ v 4 = u 4 ∧ v 6 = t ∧ v 7 = u 7))
theorem PasR.mono {t : Int32} {A A' : Nat → Int32} {nB nC nB' nC' : Nat} {pr : Int32} {u v : Nat → Int32} (h : PasR t A nB nC pr u v) (hB : nB ≤ nB') (hC : nC ≤ nC') (hBC : nB ≤ nC) (hA : ∀ j, j < nC → A' j = A j) : PasR t A' nB' nC' pr u v := by
  obtain ⟨a, b, h | ⟨c1, c2, c3, ⟨j, j1, j2, j3⟩, c4⟩ | ⟨c1, c2, c3, ⟨j, j1, j2, j3⟩, c4⟩⟩ := h
  · exact ⟨a, b, Or.inl h⟩
  · exact ⟨a, b, Or.inr (Or.inl ⟨c1, c2, c3, ⟨j, by omega, j2, by rw [hA j (by omega)]; exact j3⟩, c4⟩)⟩
  · exact ⟨a, b, Or.inr (Or.inr ⟨c1, c2, c3, ⟨j, by omega, j2, by rw [hA j (by omega)]; exact j3⟩, c4⟩)⟩
def StopR (t : Int32) (u v : Nat → Int32) : Prop := v 0 = u 0 ∧ v 1 = u 1 ∧ (v 2 = u 2 ∨ v 2 = t)
def BusG (t h : Int32) (S0 S : Nat → Nat → Int32) (u v : Nat → Int32) (r0 : Nat) : Prop :=
  (u 2 = 1 ∧ 1 < r0 ∧ v 2 = 1 ∧ v 1 = u 1 ∧ v 3 = nI (r0 - 1)) ∨
  (u 2 = 1 ∧ r0 ≤ 1 ∧ v 2 = 0 ∧ v 1 = rem10 (u 1 + 1) ∧ ∃ r, 1 ≤ r ∧ r ≤ 40 ∧ v 3 = nI r) ∨
  (u 2 = 0 ∧ v 2 = 0 ∧ v 1 = u 1 ∧ v 3 = nI (r0 - 1) ∧ (r0 < 2 → ¬ h = 0 ∧ t - S (cl (u 1)) 2 < h)) ∨
  (u 2 = 0 ∧ r0 ≤ 1 ∧ v 2 = 1 ∧ v 1 = u 1 ∧ v 3 = S0 (cl (u 1)) 0 ∧ S (cl (u 1)) 2 = t ∧ (h = 0 ∨ S0 (cl (u 1)) 2 = -1 ∨ ¬ (t - S0 (cl (u 1)) 2 < h)))
theorem sub_self {t : Nat} : nI t - nI t = 0 := by rw [pk_sub (Nat.le_refl t), Nat.sub_self]; rfl
theorem BusG.mono {tv hv : Nat} {S0 S S' : Nat → Nat → Int32} {u v : Nat → Int32} {r0 : Nat} (hhv : hv ≤ 15) (h : BusG (nI tv) (nI hv) S0 S u v r0) (hS : S' (cl (u 1)) 2 = S (cl (u 1)) 2 ∨ S' (cl (u 1)) 2 = nI tv) : BusG (nI tv) (nI hv) S0 S' u v r0 := by
  rcases h with h | h | ⟨a, b, c, d, f⟩ | ⟨a, b, c, d, f, k, l⟩
  · exact Or.inl h
  · exact Or.inr (Or.inl h)
  · refine Or.inr (Or.inr (Or.inl ⟨a, b, c, d, fun q => ?_⟩))
    obtain ⟨f1, f2⟩ := f q
    refine ⟨f1, ?_⟩
    rcases hS with z | z
    · rw [z]; exact f2
    · rw [z, sub_self]
      rcases Nat.eq_zero_or_pos hv with rfl | y
      · exact absurd rfl f1
      · exact nI_lt y (by omega)
  · refine Or.inr (Or.inr (Or.inr ⟨a, b, c, d, f, ?_, l⟩))
    rcases hS with z | z
    · rw [z]; exact k
    · exact z
def Tak (m : Nat) (u v : Nat → Int32) : Prop := ∃ a e, a < 2 ^ 30 ∧ e ≤ m ∧ u 6 = nI a ∧ v 6 = nI (a + e)
def RidOk (g0 g : S2) (o np : Nat) (e : Nat → Nat) (j : Nat) : Prop :=
  g (o + 14 + j) 5 = nI (rid g o np j + e j) ∧ g (o + 14 + j) 4 = g0 (o + 14 + j) 4 ∧ ∃ z, z ≤ 20 ∧ g0 (o + 14 + j) 4 = nI z ∧ rid g o np j + e j ≤ z
/-- n buses are done; the rows of the buses from nR on are as they were; who got on is in one of nB, who got off was in one of nC; e: who got off of a bus that still counts them -/
def Mid (o nb np : Nat) (t h : Int32) (g0 g : S2) (n nR nB nC : Nat) (e : Nat → Nat) : Prop :=
  OkL o nb np g ∧ (g o 5 = t ∧ g o 6 = h) ∧ (∀ i, i < 10 → StopR t (g0 (o + 4 + i)) (g (o + 4 + i))) ∧
  (∀ j, j < n → (∃ r0, r0 ≤ 40 ∧ g0 (o + 14 + j) 3 = nI r0 ∧ BusG t h (fun i => g0 (o + 4 + i)) (fun i => g (o + 4 + i)) (g0 (o + 14 + j)) (g (o + 14 + j)) r0) ∧ Tak 600 (g0 (o + 14 + j)) (g (o + 14 + j))) ∧
  (∀ j, nR ≤ j → j < nb → ∀ k, k < 7 → g (o + 14 + j) k = g0 (o + 14 + j) k) ∧
  (∀ p, p < np → PasR t (fun j => g (o + 14 + j) 1) nB nC (prc g0 o p) (g0 (o + 20 + p)) (g (o + 20 + p))) ∧
  (∀ j, j < nb → RidOk g0 g o np e j) ∧
  sumF (fun q => g (o + 20 + q) 4) np = sumF (fun q => g (o + 14 + q) 6) nb
section MID
variable {o nb np n nR nB nC : Nat} {tv hv : Nat} {g0 g : S2} {e : Nat → Nat}
theorem cl0 (K0 : OkL o nb np g0) {j : Nat} (hj : j < nb) : cl (g0 (o + 14 + j) 1) < 10 := (K0.2.2.2.1 j hj).1.cl.1
theorem mid_setB (K0 : OkL o nb np g0) (hhv : hv ≤ 15) {k : Nat} {x : Int32} (hk : k = 1 ∨ k = 2 ∨ k = 3) (hR : n < nR) (hn : n < nb) (hBC : nB ≤ nC) (hA : k = 1 → nC ≤ n) (h1 : k = 1 → D10 x) (h2 : k = 2 → x = 0 ∨ x = 1) (M : Mid o nb np (nI tv) (nI hv) g0 g n nR nB nC e) : Mid o nb np (nI tv) (nI hv) g0 (u2 g (o + 14 + n) k x) n nR nB nC e := by
  obtain ⟨a, ⟨b1, b2⟩, c, d, f, i, j, s⟩ := M
  have h6 := a.1.2
  refine ⟨OkL.B a (by omega) (by omega) h1 h2, ⟨by rw [u2_n (by omega)]; exact b1, by rw [u2_n (by omega)]; exact b2⟩, fun q hq => by rw [u2_ne (by omega)]; exact c q hq, fun q hq => ?_, fun q h1 h2 k hk => by rw [u2_n (by omega)]; exact f q h1 h2 k hk, fun q hq => ?_, fun q hq => ?_, ?_⟩
  · obtain ⟨⟨r0, d1, d2, d3⟩, d4⟩ := d q hq
    have hc := cl0 K0 (j := q) (by omega)
    rw [u2_ne (show o + 14 + q ≠ o + 14 + n by omega)]
    exact ⟨⟨r0, d1, d2, d3.mono hhv (Or.inl (by show u2 g (o + 14 + n) k x (o + 4 + cl (g0 (o + 14 + q) 1)) 2 = _; rw [u2_n (by omega)]))⟩, d4⟩
  · rw [u2_ne (show o + 20 + q ≠ o + 14 + n by omega)]
    exact (i q hq).mono (Nat.le_refl _) (Nat.le_refl _) hBC (fun j hj => by
      show u2 g (o + 14 + n) k x (o + 14 + j) 1 = g (o + 14 + j) 1
      rw [u2_app, if_neg (fun z => by have := hA z.2.symm; omega)])
  · unfold RidOk
    rw [rid_congr (g := g) (fun z hz => by rw [u2_n (by omega), u2_n (by omega)]; exact ⟨rfl, rfl⟩), u2_app, if_neg (by omega), u2_app, if_neg (by omega)]
    exact j q hq
  · exact (sumF_congr (fun z hz => by rw [u2_n (by omega)])).trans (s.trans (sumF_congr (fun z hz => by rw [u2_app, if_neg (by omega)])).symm)
theorem off_k {p k : Nat} {x : Int32} : f_off g (o + 20 + p) x (o + 20 + p) k = if k = 6 then x else if k = 3 then -1 else if k = 1 then g (o + 20 + p) 2 else if k = 0 then 2 else g (o + 20 + p) k := by
  unfold f_off
  simp only [u2_app]
  simp
theorem off_ne {p a : Nat} {x : Int32} (h : a ≠ o + 20 + p) : f_off g (o + 20 + p) x a = g a := by
  unfold f_off
  rw [u2_ne h, u2_ne h, u2_ne h, u2_ne h]
theorem mid_off (K0 : OkL o nb np g0) (hhv : hv ≤ 15) {p c : Nat} (hp : p < np) (hn : n < nb) (hq : g (o + 20 + p) 0 = 1 ∧ g (o + 20 + p) 3 = g (o + 14 + n) 0 ∧ g (o + 20 + p) 2 = g (o + 14 + n) 1) (M : Mid o nb np (nI tv) (nI hv) g0 g n (n + 1) n (n + 1) (e1 n c)) : Mid o nb np (nI tv) (nI hv) g0 (f_off g (o + 20 + p) (g o 5)) n (n + 1) n (n + 1) (e1 n (c + 1)) := by
  obtain ⟨a, ⟨b1, b2⟩, cc, d, f, i, j, s⟩ := M
  have h6 := a.1.2
  have h50 := a.2.1.2
  have hnum : g (o + 20 + p) 3 = nI n := hq.2.1.trans (a.2.2.1 n (by omega))
  have hs1 : f_off g (o + 20 + p) (g o 5) (o + 20 + p) 4 = g (o + 20 + p) 4 := by rw [off_k]; simp
  refine ⟨okl_off a hp, ⟨by rw [off_ne (by omega)]; exact b1, by rw [off_ne (by omega)]; exact b2⟩, fun q hq => by rw [off_ne (by omega)]; exact cc q hq, fun q hq => ?_, fun q h1 h2 k hk => by rw [off_ne (by omega)]; exact f q h1 h2 k hk, fun q hq2 => ?_, fun q hq2 => ?_, ?_⟩
  · obtain ⟨⟨r0, d1, d2, d3⟩, d4⟩ := d q hq
    have hc := cl0 K0 (j := q) (by omega)
    rw [off_ne (by omega)]
    exact ⟨⟨r0, d1, d2, d3.mono hhv (Or.inl (by show f_off g (o + 20 + p) (g o 5) (o + 4 + cl (g0 (o + 14 + q) 1)) 2 = _; rw [off_ne (by omega)]))⟩, d4⟩
  · have hA : ∀ j, j < n + 1 → (fun j => f_off g (o + 20 + p) (g o 5) (o + 14 + j) 1) j = (fun j => g (o + 14 + j) 1) j := fun j hj => by
      show f_off g (o + 20 + p) (g o 5) (o + 14 + j) 1 = _
      rw [off_ne (by omega)]
    by_cases hqp : q = p
    · subst hqp
      obtain ⟨p1, p2, h | ⟨c1, c2, c3, ⟨j, j1, j2, j3⟩, c4⟩ | ⟨c1, c2, c3⟩⟩ := i q hq2
      · refine ⟨by rw [off_k]; simp [p1], by rw [off_k]; simp [p2], Or.inr (Or.inr ⟨by rw [← h 0 (by decide)]; exact hq.1, by rw [off_k]; simp, by rw [off_k]; simp [h 2 (by decide)], ⟨n, by omega, by rw [← h 3 (by decide)]; exact hnum, ?_⟩, by rw [off_k]; simp, by rw [off_k]; simp [h 4 (by decide)], by rw [off_k]; simp [b1], by rw [off_k]; simp [h 7 (by decide)]⟩)⟩
        show f_off g (o + 20 + q) (g o 5) (o + 14 + n) 1 = _
        rw [off_ne (by omega), ← h 2 (by decide)]; exact hq.2.2.symm
      · exact absurd (hnum.symm.trans j2) (nI_ne (by omega) (by omega) (by omega))
      · exact absurd (hq.1.symm.trans c2) (by decide)
    · rw [off_ne (show o + 20 + q ≠ o + 20 + p by omega)]
      exact (i q hq2).mono (Nat.le_refl _) (Nat.le_refl _) (by omega) hA
  · obtain ⟨r1, r2, z, r3, r4, r5⟩ := j q hq2
    have hu := cnB_upd (A := fun z => decide (f_off g (o + 20 + p) (g o 5) (o + 20 + z) 0 = 1 ∧ f_off g (o + 20 + p) (g o 5) (o + 20 + z) 3 = nI q)) (B := fun z => decide (g (o + 20 + z) 0 = 1 ∧ g (o + 20 + z) 3 = nI q)) (p := p) (fun z hz => by rw [off_ne (show o + 20 + z ≠ o + 20 + p by omega)]) hp
    have hA : decide (f_off g (o + 20 + p) (g o 5) (o + 20 + p) 0 = 1 ∧ f_off g (o + 20 + p) (g o 5) (o + 20 + p) 3 = nI q) = false := by
      rw [off_k]; simp
    have hB : decide (g (o + 20 + p) 0 = 1 ∧ g (o + 20 + p) 3 = nI q) = decide (n = q) := by
      rw [hnum, hq.1]
      by_cases e9 : n = q
      · subst e9; simp
      · simp [e9, nI_ne e9 (by omega) (by omega)]
    rw [hA, hB] at hu
    replace hu : rid (f_off g (o + 20 + p) (g o 5)) o np q + (if decide (n = q) = true then 1 else 0) = rid g o np q + (if false = true then 1 else 0) := hu
    rw [if_neg (show ¬ false = true by decide)] at hu
    have hr : rid (f_off g (o + 20 + p) (g o 5)) o np q + e1 n (c + 1) q = rid g o np q + e1 n c q := by
      unfold e1
      by_cases e9 : n = q
      · subst e9
        rw [if_pos (decide_eq_true rfl)] at hu
        rw [if_pos rfl, if_pos rfl]
        omega
      · rw [if_neg (by rw [decide_eq_false e9]; decide)] at hu
        rw [if_neg (Ne.symm e9), if_neg (Ne.symm e9)]
        omega
    unfold RidOk
    rw [hr, off_ne (by omega)]
    exact ⟨r1, r2, z, r3, r4, r5⟩
  · exact (sumF_congr (fun z hz => by
      by_cases e9 : z = p
      · subst e9; exact hs1
      · rw [off_ne (by omega)])).trans (s.trans (sumF_congr (fun z hz => by rw [off_ne (by omega)])).symm)
theorem mid_offs (K0 : OkL o nb np g0) (hhv : hv ≤ 15) (hn : n < nb) (M : Mid o nb np (nI tv) (nI hv) g0 g n (n + 1) n (n + 1) (e1 n 0)) : ∀ k, k ≤ np → Mid o nb np (nI tv) (nI hv) g0 (f_offs g o (o + 14 + n) k).1 n (n + 1) n (n + 1) (e1 n (f_offs g o (o + 14 + n) k).2) ∧ (f_offs g o (o + 14 + n) k).1 (o + 14 + n) = g (o + 14 + n) ∧ (f_offs g o (o + 14 + n) k).2 ≤ k
  | 0, _ => ⟨M, rfl, Nat.le_refl 0⟩
  | k + 1, hk => by
    obtain ⟨ih, ih2, ih3⟩ := mid_offs K0 hhv hn M k (by omega)
    show Mid o nb np (nI tv) (nI hv) g0 (f_offs1 o (o + 14 + n) k (f_offs g o (o + 14 + n) k)).1 n (n + 1) n (n + 1) (e1 n (f_offs1 o (o + 14 + n) k (f_offs g o (o + 14 + n) k)).2) ∧ (f_offs1 o (o + 14 + n) k (f_offs g o (o + 14 + n) k)).1 (o + 14 + n) = g (o + 14 + n) ∧ (f_offs1 o (o + 14 + n) k (f_offs g o (o + 14 + n) k)).2 ≤ k + 1
    have h6 := M.1.1.2
    generalize f_offs g o (o + 14 + n) k = r at ih ih2 ih3 ⊢
    unfold f_offs1
    split
    · rename_i q
      exact ⟨mid_off K0 hhv (by omega) hn q ih, by show f_off r.1 (o + 20 + k) (r.1 o 5) (o + 14 + n) = _; rw [off_ne (by omega)]; exact ih2, by show r.2 + 1 ≤ k + 1; omega⟩
    · exact ⟨ih, ih2, by omega⟩
theorem mid_letOff (K0 : OkL o nb np g0) (hhv : hv ≤ 15) (hn : n < nb) (M : Mid o nb np (nI tv) (nI hv) g0 g n (n + 1) n (n + 1) (e1 n 0)) : Mid o nb np (nI tv) (nI hv) g0 (f_letOff g o (o + 14 + n) np) n (n + 1) n (n + 1) (e1 n 0) := by
  obtain ⟨⟨a, ⟨b1, b2⟩, cc, d, f, i, j, s⟩, h2, h3⟩ := mid_offs K0 hhv hn M np (Nat.le_refl _)
  have h6 := a.1.2
  unfold f_letOff
  generalize f_offs g o (o + 14 + n) np = r at a b1 b2 cc d f i j s h2 h3
  refine ⟨OkL.B a (by omega) (by decide) (by omega) (by omega), ⟨by rw [u2_n (by omega)]; exact b1, by rw [u2_n (by omega)]; exact b2⟩, fun q hq => by rw [u2_ne (by omega)]; exact cc q hq, fun q hq => ?_, fun q h1 h2 k hk => by rw [u2_n (by omega)]; exact f q h1 h2 k hk, fun q hq => ?_, fun q hq => ?_, ?_⟩
  · obtain ⟨⟨r0, d1, d2, d3⟩, d4⟩ := d q hq
    have hc := cl0 K0 (j := q) (by omega)
    rw [u2_ne (show o + 14 + q ≠ o + 14 + n by omega)]
    exact ⟨⟨r0, d1, d2, d3.mono hhv (Or.inl (by show u2 r.1 (o + 14 + n) 5 _ (o + 4 + cl (g0 (o + 14 + q) 1)) 2 = _; rw [u2_n (by omega)]))⟩, d4⟩
  · rw [u2_ne (show o + 20 + q ≠ o + 14 + n by omega)]
    exact (i q hq).mono (Nat.le_refl _) (Nat.le_refl _) (by omega) (fun j hj => by
      show u2 r.1 (o + 14 + n) 5 _ (o + 14 + j) 1 = r.1 (o + 14 + j) 1
      rw [u2_app, if_neg (by omega)])
  · obtain ⟨r1, r2, z, r3, r4, r5⟩ := j q hq
    unfold RidOk
    rw [rid_congr (g := r.1) (fun z hz => by rw [u2_n (by omega), u2_n (by omega)]; exact ⟨rfl, rfl⟩)]
    by_cases e9 : q = n
    · subst e9
      unfold e1 at r1 r5 ⊢
      rw [if_pos rfl] at r1 r5
      rw [if_pos rfl, u2_s, u2_k (by decide), r1, pk_sub (by omega)]
      exact ⟨congrArg nI (by omega), r2, z, r3, r4, by omega⟩
    · unfold e1 at r1 r5 ⊢
      rw [if_neg e9] at r1 r5
      rw [if_neg e9, u2_n (by omega), u2_n (by omega)]
      exact ⟨r1, r2, z, r3, r4, r5⟩
  · exact (sumF_congr (fun z hz => by rw [u2_n (by omega)])).trans (s.trans (sumF_congr (fun z hz => by rw [u2_app, if_neg (by omega)])).symm)
end MID
end
section
/-! who gets on; a whole bus; a whole minute -/
section MID2
variable {o nb np n nR nB nC : Nat} {tv hv : Nat} {g0 g : S2} {e : Nat → Nat}
theorem f_cnt9 {sg : Nat → Int32} {a c : Nat} (ha : a < 10) (hc : c < 10) : ∃ m, m ≤ 11 ∧ f_fare sg a c = nI m := by
  unfold f_fare
  by_cases h : a = c
  · rw [if_pos h]; exact ⟨0, by omega, rfl⟩
  · rw [if_neg h]
    refine ⟨_, ?_, rfl⟩
    have h9 := f_cnt_le sg a (if a < c then c - a else c + 10 - a)
    split at h9 <;> split <;> omega
theorem fare11 {sg : Nat → Int32} {x y : Int32} (hx : D10 x) (hy : D10 y) : ∃ m, m ≤ 11 ∧ f_fareI sg x y = nI m := f_cnt9 hx.cl.1 hy.cl.1
theorem price11 {P : Nat} {x : Int32} (h : ∃ m, m ≤ 11 ∧ x = nI m) : ∃ m, m ≤ 11 ∧ f_price g P x = nI m := by
  obtain ⟨m, hm, rfl⟩ := h
  unfold f_price
  split
  · exact ⟨m, hm, rfl⟩
  · exact ⟨m / 2, by omega, by rw [show (2 : Int32) = nI 2 from rfl, pk_div (by omega) (by decide) (by decide)]⟩
theorem board_P {p j k : Nat} : f_board g o (o + 14 + j) (o + 20 + p) (o + 20 + p) k = if o + 20 + p = o + 14 + j then f_board g o (o + 14 + j) (o + 20 + p) (o + 20 + p) k else if k = 4 then g (o + 20 + p) 4 + f_price g (o + 20 + p) (f_fareI (stg g o) (g (o + 20 + p) 1) (g (o + 20 + p) 2)) else if k = 3 then g (o + 14 + j) 0 else if k = 0 then 1 else if k = 7 then 0 else g (o + 20 + p) k := by
  by_cases h : o + 20 + p = o + 14 + j
  · rw [if_pos h]
  · rw [if_neg h]
    unfold f_board f_on
    rw [u2_ne h, u2_ne h]
    simp only [u2_app]
    simp
theorem board_B {p j k : Nat} (h : o + 14 + j ≠ o + 20 + p) : f_board g o (o + 14 + j) (o + 20 + p) (o + 14 + j) k = if k = 5 then g (o + 14 + j) 5 + 1 else if k = 6 then g (o + 14 + j) 6 + f_price g (o + 20 + p) (f_fareI (stg g o) (g (o + 20 + p) 1) (g (o + 20 + p) 2)) else g (o + 14 + j) k := by
  unfold f_board f_on
  simp only [u2_app]
  simp [h]
theorem board_ne {p j a : Nat} (h : a ≠ o + 14 + j) (h2 : a ≠ o + 20 + p) : f_board g o (o + 14 + j) (o + 20 + p) a = g a := by
  unfold f_board f_on
  rw [u2_ne h, u2_ne h, u2_ne h2, u2_ne h2, u2_ne h2, u2_ne h2]
/-- beside Mid: bus n is at its stop, m of the passengers have been looked at -/
def At (o n m : Nat) (g0 g : S2) : Prop := g (o + 14 + n) 1 = rem10 (g0 (o + 14 + n) 1 + 1) ∧ g (o + 14 + n) 2 = 0 ∧ Tak (12 * m) (g0 (o + 14 + n)) (g (o + 14 + n))
theorem mid_board (K0 : OkL o nb np g0) (hhv : hv ≤ 15) {p : Nat} (hp : p < np) (hn : n < nb) (hq : g (o + 14 + n) 5 < g (o + 14 + n) 4 ∧ g (o + 20 + p) 0 = 0 ∧ g (o + 20 + p) 1 = g (o + 14 + n) 1) (M : Mid o nb np (nI tv) (nI hv) g0 g n (n + 1) (n + 1) (n + 1) (e1 n 0)) (hT : At o n p g0 g) :
    Mid o nb np (nI tv) (nI hv) g0 (f_board g o (o + 14 + n) (o + 20 + p)) n (n + 1) (n + 1) (n + 1) (e1 n 0) ∧ At o n (p + 1) g0 (f_board g o (o + 14 + n) (o + 20 + p)) := by
  obtain ⟨a, ⟨b1, b2⟩, cc, d, f, i, j, s⟩ := M
  have h6 := a.1.2
  have h50 := a.2.1.2
  have hne : ∀ j, j < 6 → o + 14 + j ≠ o + 20 + p := fun j hj => by omega
  have hPne : ¬ o + 20 + p = o + 14 + n := by omega
  have hnum : g (o + 14 + n) 0 = nI n := a.2.2.1 n (by omega)
  obtain ⟨pm, hpm, hpr⟩ := price11 (g := g) (P := o + 20 + p) (fare11 (sg := stg g o) (a.2.2.2.2 p hp).1 (a.2.2.2.2 p hp).2.1)
  refine ⟨⟨okl_board a hp (by omega), ⟨by rw [board_ne (by omega) (by omega)]; exact b1, by rw [board_ne (by omega) (by omega)]; exact b2⟩, fun q hq => by rw [board_ne (by omega) (by omega)]; exact cc q hq, fun q hq => ?_, fun q h1 h2 k hk => by rw [board_ne (by omega) (by omega)]; exact f q h1 h2 k hk, fun q hq2 => ?_, fun q hq2 => ?_, ?_⟩, ?_⟩
  · obtain ⟨⟨r0, d1, d2, d3⟩, d4⟩ := d q hq
    have hc := cl0 K0 (j := q) (by omega)
    rw [board_ne (by omega) (by omega)]
    exact ⟨⟨r0, d1, d2, d3.mono hhv (Or.inl (by show f_board g o (o + 14 + n) (o + 20 + p) (o + 4 + cl (g0 (o + 14 + q) 1)) 2 = _; rw [board_ne (by omega) (by omega)]))⟩, d4⟩
  · have hA : ∀ j, j < n + 1 → (fun j => f_board g o (o + 14 + n) (o + 20 + p) (o + 14 + j) 1) j = (fun j => g (o + 14 + j) 1) j := fun j hj => by
      show f_board g o (o + 14 + n) (o + 20 + p) (o + 14 + j) 1 = _
      by_cases e9 : j = n
      · subst e9; rw [board_B (hne _ (by omega)), if_neg (by decide), if_neg (by decide)]
      · rw [board_ne (by omega) (by omega)]
    by_cases hqp : q = p
    · subst hqp
      obtain ⟨p1, p2, h | ⟨c1, c2, c3⟩ | ⟨c1, c2, c3⟩⟩ := i q hq2
      · have hpc : f_price g (o + 20 + q) (f_fareI (stg g o) (g (o + 20 + q) 1) (g (o + 20 + q) 2)) = prc g0 o q := by
          unfold prc f_price
          rw [f_fareI_congr (s := stg g o) (s' := stg g0 o) (fun i hi => (cc i hi).2.1), h 1 (by decide), h 2 (by decide), h 7 (by decide)]
        refine ⟨by rw [board_P, if_neg hPne]; exact p1, by rw [board_P, if_neg hPne]; exact p2, Or.inr (Or.inl ⟨by rw [← h 0 (by decide)]; exact hq.2.1, by rw [board_P, if_neg hPne]; rfl, by rw [board_P, if_neg hPne]; exact h 1 (by decide), ⟨n, by omega, by rw [board_P, if_neg hPne]; exact hnum, ?_⟩, by rw [board_P, if_neg hPne, hpc]; show g (o + 20 + q) 4 + _ = _; rw [h 4 (by decide)], by rw [board_P, if_neg hPne]; exact h 6 (by decide), by rw [board_P, if_neg hPne]; rfl⟩)⟩
        rw [hA n (by omega), ← h 1 (by decide)]; exact hq.2.2.symm
      · exact absurd (hq.2.1.symm.trans c2) (by decide)
      · exact absurd (hq.2.1.symm.trans c2) (by decide)
    · rw [board_ne (show o + 20 + q ≠ o + 14 + n by omega) (show o + 20 + q ≠ o + 20 + p by omega)]
      exact (i q hq2).mono (Nat.le_refl _) (Nat.le_refl _) (Nat.le_refl _) hA
  · obtain ⟨r1, r2, z, r3, r4, r5⟩ := j q hq2
    have hu := cnB_upd (A := fun z => decide (f_board g o (o + 14 + n) (o + 20 + p) (o + 20 + z) 0 = 1 ∧ f_board g o (o + 14 + n) (o + 20 + p) (o + 20 + z) 3 = nI q)) (B := fun z => decide (g (o + 20 + z) 0 = 1 ∧ g (o + 20 + z) 3 = nI q)) (p := p) (fun z hz => by rw [board_ne (show o + 20 + z ≠ o + 14 + n by omega) (show o + 20 + z ≠ o + 20 + p by omega)]) hp
    have hA : decide (f_board g o (o + 14 + n) (o + 20 + p) (o + 20 + p) 0 = 1 ∧ f_board g o (o + 14 + n) (o + 20 + p) (o + 20 + p) 3 = nI q) = decide (n = q) := by
      rw [board_P, if_neg hPne, board_P, if_neg hPne]
      show decide ((1 : Int32) = 1 ∧ g (o + 14 + n) 0 = nI q) = _
      rw [hnum]
      by_cases e9 : n = q
      · subst e9; simp
      · simp [e9, nI_ne e9 (by omega) (by omega)]
    have hB : decide (g (o + 20 + p) 0 = 1 ∧ g (o + 20 + p) 3 = nI q) = false := by
      rw [hq.2.1]; simp
    rw [hA, hB] at hu
    replace hu : rid (f_board g o (o + 14 + n) (o + 20 + p)) o np q + (if false = true then 1 else 0) = rid g o np q + (if decide (n = q) = true then 1 else 0) := hu
    rw [if_neg (show ¬ false = true by decide)] at hu
    unfold RidOk
    by_cases e9 : n = q
    · subst e9
      rw [if_pos (decide_eq_true rfl)] at hu
      unfold e1 at r1 r5 ⊢
      rw [if_pos rfl] at r1 r5
      rw [if_pos rfl, board_B (hne n (by omega)), if_pos rfl, board_B (hne n (by omega)), if_neg (by decide), if_neg (by decide)]
      have hlt : rid g o np n < z := by
        have h1 := hq.1
        rw [r1, r2, r4] at h1
        have := (nI_ltI (by omega) (by omega)).mp h1
        omega
      exact ⟨by rw [r1, nI_1]; exact congrArg nI (by omega), r2, z, r3, r4, by omega⟩
    · rw [if_neg (by rw [decide_eq_false e9]; decide)] at hu
      unfold e1 at r1 r5 ⊢
      rw [if_neg (Ne.symm e9)] at r1 r5
      rw [if_neg (Ne.symm e9), board_ne (by omega) (by omega), show rid (f_board g o (o + 14 + n) (o + 20 + p)) o np q = rid g o np q by omega]
      exact ⟨r1, r2, z, r3, r4, r5⟩
  · have s1 : sumF (fun q => f_board g o (o + 14 + n) (o + 20 + p) (o + 20 + q) 4) np = sumF (fun q => g (o + 20 + q) 4) np + f_price g (o + 20 + p) (f_fareI (stg g o) (g (o + 20 + p) 1) (g (o + 20 + p) 2)) :=
      sumF_upd (p := p) (fun q hq => by rw [board_ne (by omega) (by omega)]) (by rw [board_P, if_neg hPne]; rfl) hp
    have s2 : sumF (fun q => f_board g o (o + 14 + n) (o + 20 + p) (o + 14 + q) 6) nb = sumF (fun q => g (o + 14 + q) 6) nb + f_price g (o + 20 + p) (f_fareI (stg g o) (g (o + 20 + p) 1) (g (o + 20 + p) 2)) := by
      have s3 : sumF (fun q => f_board g o (o + 14 + n) (o + 20 + p) (o + 14 + q) 6) nb = sumF (fun q => if q = n then f_board g o (o + 14 + n) (o + 20 + p) (o + 14 + n) 6 else g (o + 14 + q) 6) nb := sumF_congr (fun q hq => by
        by_cases e9 : q = n
        · subst e9; rw [if_pos rfl]
        · rw [if_neg e9, board_ne (by omega) (by omega)])
      rw [s3]
      exact sumF_upd (p := n) (fun q hq => by rw [if_neg hq]) (by rw [if_pos rfl, board_B (hne n (by omega)), if_neg (by decide), if_pos rfl]) hn
    rw [s1, s2, s]
  · obtain ⟨t1, t2, u, w, w1, w2, w3, w4⟩ := hT
    refine ⟨by rw [board_B (hne n (by omega)), if_neg (by decide), if_neg (by decide)]; exact t1, by rw [board_B (hne n (by omega)), if_neg (by decide), if_neg (by decide)]; exact t2, u, w + pm, w1, by omega, w3, ?_⟩
    rw [board_B (hne n (by omega)), if_neg (by decide), if_pos rfl, w4, hpr, nI_add]
    exact congrArg nI (by omega)
theorem mid_ons (K0 : OkL o nb np g0) (hhv : hv ≤ 15) (hn : n < nb) (M : Mid o nb np (nI tv) (nI hv) g0 g n (n + 1) (n + 1) (n + 1) (e1 n 0)) (hT : At o n 0 g0 g) : ∀ k, k ≤ np → Mid o nb np (nI tv) (nI hv) g0 (f_ons g o (o + 14 + n) k).1 n (n + 1) (n + 1) (n + 1) (e1 n 0) ∧ At o n k g0 (f_ons g o (o + 14 + n) k).1 ∧ (f_ons g o (o + 14 + n) k).2 ≤ k
  | 0, _ => ⟨M, hT, Nat.le_refl 0⟩
  | k + 1, hk => by
    obtain ⟨ih, ih2, ih3⟩ := mid_ons K0 hhv hn M hT k (by omega)
    show Mid o nb np (nI tv) (nI hv) g0 (f_ons1 o (o + 14 + n) k (f_ons g o (o + 14 + n) k)).1 n (n + 1) (n + 1) (n + 1) (e1 n 0) ∧ At o n (k + 1) g0 (f_ons1 o (o + 14 + n) k (f_ons g o (o + 14 + n) k)).1 ∧ (f_ons1 o (o + 14 + n) k (f_ons g o (o + 14 + n) k)).2 ≤ k + 1
    generalize f_ons g o (o + 14 + n) k = r at ih ih2 ih3 ⊢
    unfold f_ons1
    split
    · rename_i q
      obtain ⟨y1, y2⟩ := mid_board K0 hhv (by omega) hn q ih ih2
      exact ⟨y1, y2, by show r.2 + 1 ≤ k + 1; omega⟩
    · obtain ⟨y1, y2, u, w, w1, w2, w3⟩ := ih2
      exact ⟨ih, ⟨y1, y2, u, w, w1, by omega, w3⟩, by omega⟩
theorem Mid.weak {nR' nB' nC' : Nat} (M : Mid o nb np (nI tv) (nI hv) g0 g n nR nB nC e) (hR : nR ≤ nR') (hB : nB ≤ nB') (hC : nC ≤ nC') (hBC : nB ≤ nC) : Mid o nb np (nI tv) (nI hv) g0 g n nR' nB' nC' e := by
  obtain ⟨a, b, c, d, f, i, j⟩ := M
  exact ⟨a, b, c, d, fun q h1 h2 => f q (by omega) h2, fun q hq => (i q hq).mono hB hC hBC (fun _ _ => rfl), j⟩
theorem mid_e {e' : Nat → Nat} (M : Mid o nb np (nI tv) (nI hv) g0 g n nR nB nC e) (h : e' = e) : Mid o nb np (nI tv) (nI hv) g0 g n nR nB nC e' := h ▸ M
theorem e1_0 : e1 n 0 = fun _ => 0 := by funext i; unfold e1; split <;> rfl
end MID2
end
section
/-! a whole bus, a whole minute -/
section MIN
variable {o nb np n nR nB nC : Nat} {tv hv : Nat} {g0 g : S2} {e : Nat → Nat}
theorem mid_setS (K0 : OkL o nb np g0) (hhv : hv ≤ 15) {i : Nat} (hi : i < 10) (hBC : nB ≤ nC) (hnb : n ≤ nb) (M : Mid o nb np (nI tv) (nI hv) g0 g n nR nB nC e) : Mid o nb np (nI tv) (nI hv) g0 (u2 g (o + 4 + i) 2 (nI tv)) n nR nB nC e := by
  obtain ⟨a, ⟨b1, b2⟩, c, d, f, q, j, s⟩ := M
  have h6 := a.1.2
  refine ⟨OkL.S a hi, ⟨by rw [u2_n (by omega)]; exact b1, by rw [u2_n (by omega)]; exact b2⟩, fun z hz => ?_, fun z hz => ?_, fun z h1 h2 k hk => by rw [u2_n (by omega)]; exact f z h1 h2 k hk, fun z hz => ?_, fun z hz => ?_, ?_⟩
  · obtain ⟨c1, c2, c3⟩ := c z hz
    by_cases e9 : z = i
    · subst e9
      exact ⟨by rw [u2_k (by decide)]; exact c1, by rw [u2_k (by decide)]; exact c2, Or.inr u2_s⟩
    · rw [u2_ne (by omega)]; exact ⟨c1, c2, c3⟩
  · obtain ⟨⟨r0, d1, d2, d3⟩, d4⟩ := d z hz
    have hc := cl0 K0 (j := z) (by omega)
    rw [u2_ne (show o + 14 + z ≠ o + 4 + i by omega)]
    refine ⟨⟨r0, d1, d2, d3.mono hhv ?_⟩, d4⟩
    show u2 g (o + 4 + i) 2 (nI tv) (o + 4 + cl (g0 (o + 14 + z) 1)) 2 = _ ∨ u2 g (o + 4 + i) 2 (nI tv) (o + 4 + cl (g0 (o + 14 + z) 1)) 2 = _
    by_cases e9 : cl (g0 (o + 14 + z) 1) = i
    · rw [e9, u2_s]; exact Or.inr rfl
    · rw [u2_n (by omega)]; exact Or.inl rfl
  · rw [u2_ne (show o + 20 + z ≠ o + 4 + i by omega)]
    exact (q z hz).mono (Nat.le_refl _) (Nat.le_refl _) hBC (fun j hj => by
      show u2 g (o + 4 + i) 2 _ (o + 14 + j) 1 = g (o + 14 + j) 1
      rw [u2_app, if_neg (by omega)])
  · unfold RidOk
    rw [rid_congr (g := g) (fun z hz => by rw [u2_n (by omega), u2_n (by omega)]; exact ⟨rfl, rfl⟩), u2_n (by omega), u2_n (by omega)]
    exact j z hz
  · exact (sumF_congr (fun z hz => by rw [u2_n (by omega)])).trans (s.trans (sumF_congr (fun z hz => by rw [u2_n (by omega)])).symm)
theorem mid_done (M : Mid o nb np (nI tv) (nI hv) g0 g n (n + 1) nB nC (fun _ => 0)) (hB : nB ≤ n + 1) (hC : nC ≤ n + 1) (hBC : nB ≤ nC) {r0 : Nat} (hr : r0 ≤ 40) (h3 : g0 (o + 14 + n) 3 = nI r0) (hG : BusG (nI tv) (nI hv) (fun i => g0 (o + 4 + i)) (fun i => g (o + 4 + i)) (g0 (o + 14 + n)) (g (o + 14 + n)) r0) (hT : Tak 600 (g0 (o + 14 + n)) (g (o + 14 + n))) : Mid o nb np (nI tv) (nI hv) g0 g (n + 1) (n + 1) (n + 1) (n + 1) (fun _ => 0) := by
  obtain ⟨a, b, c, d, f, q, j⟩ := M
  refine ⟨a, b, c, fun z hz => ?_, f, fun z hz => (q z hz).mono hB hC hBC (fun _ _ => rfl), j⟩
  rcases Nat.lt_or_ge z n with h | h
  · exact d z h
  · obtain rfl : z = n := by omega
    exact ⟨⟨r0, hr, h3, hG⟩, hT⟩
/-- what the minute asks of the line at its beginning -/
def Beg (o nb : Nat) (g0 : S2) : Prop := (∀ j, j < nb → (∃ r0, r0 ≤ 40 ∧ g0 (o + 14 + j) 3 = nI r0 ∧ (g0 (o + 14 + j) 2 = 1 → 1 ≤ r0)) ∧ ∃ a, a < 2 ^ 30 ∧ g0 (o + 14 + j) 6 = nI a)
theorem lets_iff {i : Nat} {t h : Int32} : f_lets g i t h = 1 ↔ (h = 0 ∨ g i 2 = -1 ∨ ¬ (t - g i 2 < h)) := by
  unfold f_lets
  constructor
  · intro q
    split at q
    · assumption
    · exact absurd q (by decide)
  · intro q
    rw [if_pos q]
theorem mid_stand (K0 : OkL o nb np g0) (hhv : hv ≤ 15) (htv : tv < 2 ^ 29) (B0 : Beg o nb g0) (hn : n < nb) (hg : g (o + 14 + n) 2 = 0) (M : Mid o nb np (nI tv) (nI hv) g0 g n n n n (fun _ => 0)) : Mid o nb np (nI tv) (nI hv) g0 (f_stand g o (o + 14 + n)) (n + 1) (n + 1) (n + 1) (n + 1) (fun _ => 0) := by
  have hrow := M.2.2.2.2.1 n (Nat.le_refl n) hn
  obtain ⟨⟨r0, hr, h3, hr1⟩, a, ha, ha6⟩ := B0 n hn
  have hc := cl0 K0 hn
  have hlow : ∀ g1 : S2, g1 (o + 14 + n) 6 = g (o + 14 + n) 6 → Tak 600 (g0 (o + 14 + n)) (g1 (o + 14 + n)) := fun g1 h => ⟨a, 0, ha, by omega, ha6, by rw [h, hrow 6 (by decide)]; exact ha6⟩
  have M1 := M.weak (Nat.le_succ n) (Nat.le_refl n) (Nat.le_refl n) (Nat.le_refl n)
  -- behind the first half
  have S1 : Mid o nb np (nI tv) (nI hv) g0 (f_std1 g (o + 14 + n)) n (n + 1) n n (fun _ => 0) ∧ f_std1 g (o + 14 + n) (o + 14 + n) 3 = nI (r0 - 1) ∧ ∀ k, k ≠ 3 → f_std1 g (o + 14 + n) (o + 14 + n) k = g (o + 14 + n) k := by
    unfold f_std1
    rw [hrow 3 (by decide), h3]
    rcases Nat.eq_zero_or_pos r0 with q | q
    · rw [q, if_neg (by decide)]
      exact ⟨M1, by rw [hrow 3 (by decide), h3, q], fun _ _ => rfl⟩
    · rw [if_pos (show (0 : Int32) < nI r0 from nI_lt (a := 0) q (by omega)), show (1 : Int32) = nI 1 from rfl, pk_sub q]
      exact ⟨mid_setB K0 hhv (Or.inr (Or.inr rfl)) (Nat.lt_succ_self n) hn (Nat.le_refl n) (by omega) (by omega) (by omega) M1, u2_s, fun k hk => u2_k hk⟩
  unfold f_stand
  obtain ⟨S1, S2, S3⟩ := S1
  generalize f_std1 g (o + 14 + n) = g1 at S1 S2 S3 ⊢
  have h1 : g1 (o + 14 + n) 1 = g0 (o + 14 + n) 1 := (S3 1 (by decide)).trans (hrow 1 (by decide))
  have hst := S1.2.2.1 _ hc
  have hT1 := hlow g1 (S3 6 (by decide))
  unfold f_std2
  rw [h1, S2, S1.2.1.1, S1.2.1.2]
  by_cases q : nI (r0 - 1) = 0 ∧ f_lets g1 (o + 4 + cl (g0 (o + 14 + n) 1)) (nI tv) (nI hv) = 1
  · rw [if_pos q]
    have hr01 : r0 ≤ 1 := by
      rcases Nat.lt_or_ge 1 r0 with z | z
      · exact absurd q.1 (nI_ne0 (by omega) (by omega))
      · exact z
    have T1 := mid_setS K0 hhv hc (Nat.le_refl n) (by omega) S1
    have T2 := mid_setB (k := 2) (x := 1) K0 hhv (Or.inr (Or.inl rfl)) (Nat.lt_succ_self n) hn (Nat.le_refl n) (by omega) (by omega) (fun _ => Or.inr rfl) T1
    have T3 := mid_setB (k := 3) (x := g1 (o + 4 + cl (g0 (o + 14 + n) 1)) 0) K0 hhv (Or.inr (Or.inr rfl)) (Nat.lt_succ_self n) hn (Nat.le_refl n) (by omega) (by omega) (by omega) T2
    refine mid_done T3 (by omega) (by omega) (Nat.le_refl n) hr h3 (Or.inr (Or.inr (Or.inr ⟨by rw [← hrow 2 (by decide)]; exact hg, hr01, by rw [u2_k (by decide), u2_s], by rw [u2_k (by decide), u2_k (by decide), u2_n (by omega)]; exact h1, by rw [u2_s]; exact hst.1, ?_, ?_⟩))) ?_
    · show u2 _ _ _ _ (o + 4 + cl (g0 (o + 14 + n) 1)) 2 = _
      rw [u2_n (by omega), u2_n (by omega), u2_s]
    · rcases hst.2.2 with z | z
      · have := lets_iff.mp q.2
        rw [z] at this
        exact this
      · rcases lets_iff.mp q.2 with y | y | y
        · exact Or.inl y
        · exfalso
          rw [z] at y
          have := congrArg Int32.toInt y
          rw [nI_toInt (by omega)] at this
          have h9 : (-1 : Int32).toInt = -1 := by decide
          omega
        · rw [z, sub_self] at y
          refine Or.inl ?_
          rcases Nat.eq_zero_or_pos hv with w | w
          · rw [w]; rfl
          · exact absurd (show (0 : Int32) < nI hv from nI_lt (a := 0) w (by omega)) y
    · exact hlow _ (by rw [u2_k (by decide), u2_k (by decide), u2_n (by omega)]; exact S3 6 (by decide))
  · rw [if_neg q]
    refine mid_done S1 (by omega) (by omega) (Nat.le_refl n) hr h3 (Or.inr (Or.inr (Or.inl ⟨by rw [← hrow 2 (by decide)]; exact hg, by rw [S3 2 (by decide)]; exact hg, h1, S2, fun z => ?_⟩))) hT1
    have hl : ¬ f_lets g1 (o + 4 + cl (g0 (o + 14 + n) 1)) (nI tv) (nI hv) = 1 := fun y => q ⟨by rw [show r0 - 1 = 0 by omega]; rfl, y⟩
    rw [lets_iff] at hl
    refine ⟨fun y => hl (Or.inl y), ?_⟩
    exact Classical.byContradiction fun y => hl (Or.inr (Or.inr y))
theorem mid_drive (K0 : OkL o nb np g0) (hhv : hv ≤ 15) (B0 : Beg o nb g0) (hn : n < nb) (hg : ¬ g (o + 14 + n) 2 = 0) (M : Mid o nb np (nI tv) (nI hv) g0 g n n n n (fun _ => 0)) : Mid o nb np (nI tv) (nI hv) g0 (f_drive g o (o + 14 + n) np) (n + 1) (n + 1) (n + 1) (n + 1) (fun _ => 0) := by
  have hrow := M.2.2.2.2.1 n (Nat.le_refl n) hn
  obtain ⟨⟨r0, hr, h3, hr1⟩, a, ha, ha6⟩ := B0 n hn
  have h50 := K0.2.1.2
  have hgo : g0 (o + 14 + n) 2 = 1 := by
    rcases (K0.2.2.2.1 n hn).2 with z | z
    · rw [hrow 2 (by decide)] at hg; exact absurd z hg
    · exact z
  have hr1 := hr1 hgo
  have M1 := M.weak (Nat.le_succ n) (Nat.le_refl n) (Nat.le_refl n) (Nat.le_refl n)
  have hsub : nI r0 - 1 = nI (r0 - 1) := by rw [show (1 : Int32) = nI 1 from rfl, pk_sub hr1]
  unfold f_drive
  rw [hrow 3 (by decide), h3, hsub]
  by_cases q : 0 < nI (r0 - 1)
  · rw [if_pos q]
    have hr2 : 1 < r0 := by
      rcases Nat.lt_or_ge 1 r0 with z | z
      · exact z
      · rw [show r0 - 1 = 0 by omega] at q; exact absurd q (by decide)
    have T1 := mid_setB (k := 3) (x := nI (r0 - 1)) K0 hhv (Or.inr (Or.inr rfl)) (Nat.lt_succ_self n) hn (Nat.le_refl n) (by omega) (by omega) (by omega) M1
    exact mid_done T1 (by omega) (by omega) (Nat.le_refl n) hr h3 (Or.inl ⟨hgo, hr2, by rw [u2_k (by decide), hrow 2 (by decide)]; exact hgo, by rw [u2_k (by decide)]; exact hrow 1 (by decide), u2_s⟩) ⟨a, 0, ha, by omega, ha6, by rw [u2_k (by decide), hrow 6 (by decide)]; exact ha6⟩
  · rw [if_neg q]
    have hr2 : r0 ≤ 1 := by
      rcases Nat.lt_or_ge 1 r0 with z | z
      · exact absurd (nI_lt (a := 0) (by omega) (by omega)) q
      · exact z
    have hA : Mid o nb np (nI tv) (nI hv) g0 (f_arr g (o + 14 + n)) n (n + 1) n n (fun _ => 0) := by
      unfold f_arr
      refine mid_setB (k := 2) (x := 0) K0 hhv (Or.inr (Or.inl rfl)) (Nat.lt_succ_self n) hn (Nat.le_refl n) (by omega) (by omega) (fun _ => Or.inl rfl) ?_
      refine mid_setB (k := 1) K0 hhv (Or.inl rfl) (Nat.lt_succ_self n) hn (Nat.le_refl n) (fun _ => Nat.le_refl n) (fun _ => ?_) (by omega) ?_
      · rw [hrow 1 (by decide)]; exact (K0.2.2.2.1 n hn).1.next
      · exact mid_setB (k := 3) K0 hhv (Or.inr (Or.inr rfl)) (Nat.lt_succ_self n) hn (Nat.le_refl n) (by omega) (by omega) (by omega) M1
    have hA1 : f_arr g (o + 14 + n) (o + 14 + n) 1 = rem10 (g0 (o + 14 + n) 1 + 1) := by
      unfold f_arr
      rw [u2_k (by decide), u2_s, hrow 1 (by decide)]
    have hA2 : f_arr g (o + 14 + n) (o + 14 + n) 2 = 0 := by unfold f_arr; rw [u2_s]
    have hA6 : f_arr g (o + 14 + n) (o + 14 + n) 6 = nI a := by
      unfold f_arr
      rw [u2_k (by decide), u2_k (by decide), u2_k (by decide), hrow 6 (by decide)]; exact ha6
    generalize f_arr g (o + 14 + n) = g1 at hA hA1 hA2 hA6 ⊢
    have hA' := mid_e (hA.weak (nR' := n + 1) (nB' := n) (nC' := n + 1) (Nat.le_refl _) (Nat.le_refl n) (Nat.le_succ n) (Nat.le_refl n)) (e1_0 (n := n))
    obtain ⟨-, hO2, hO3⟩ := mid_offs K0 hhv hn hA' np (Nat.le_refl _)
    have hL := (mid_letOff K0 hhv hn hA').weak (nR' := n + 1) (nB' := n + 1) (nC' := n + 1) (Nat.le_refl _) (Nat.le_succ n) (Nat.le_refl _) (Nat.le_succ n)
    have hLk : ∀ k, k ≠ 5 → f_letOff g1 o (o + 14 + n) np (o + 14 + n) k = g1 (o + 14 + n) k := fun k hk => by
      unfold f_letOff
      rw [u2_k hk, hO2]
    have hAt : At o n 0 g0 (f_letOff g1 o (o + 14 + n) np) := ⟨(hLk 1 (by decide)).trans hA1, (hLk 2 (by decide)).trans hA2, a, 0, ha, by omega, ha6, (hLk 6 (by decide)).trans hA6⟩
    obtain ⟨hN1, ⟨t1, t2, t3⟩, hN3⟩ := mid_ons K0 hhv hn hL hAt np (Nat.le_refl _)
    generalize f_ons (f_letOff g1 o (o + 14 + n) np) o (o + 14 + n) np = r at hN1 t1 t2 t3 hN3 ⊢
    generalize (f_offs g1 o (o + 14 + n) np).2 = c at hO3 ⊢
    have hv3 : (1 : Int32) + nI r.2 / 2 + nI c / 4 = nI (1 + r.2 / 2 + c / 4) := by
      rw [show (2 : Int32) = nI 2 from rfl, show (4 : Int32) = nI 4 from rfl, show (1 : Int32) = nI 1 from rfl, pk_div (by omega) (by decide) (by decide), pk_div (by omega) (by decide) (by decide), nI_add, nI_add]
    rw [hv3]
    have T1 := mid_setB (k := 3) (x := nI (1 + r.2 / 2 + c / 4)) K0 hhv (Or.inr (Or.inr rfl)) (Nat.lt_succ_self n) hn (Nat.le_refl _) (by omega) (by omega) (by omega) hN1
    refine mid_done (mid_e T1 (e1_0 (n := n)).symm) (Nat.le_refl _) (Nat.le_refl _) (Nat.le_refl _) hr h3 (Or.inr (Or.inl ⟨hgo, hr2, by rw [u2_k (by decide)]; exact t2, by rw [u2_k (by decide)]; exact t1, _, ?_, ?_, u2_s⟩)) ?_
    · omega
    · omega
    · obtain ⟨u, w, w1, w2, w3, w4⟩ := t3
      exact ⟨u, w, w1, by omega, w3, by rw [u2_k (by decide)]; exact w4⟩
theorem mid_bus1 (K0 : OkL o nb np g0) (hhv : hv ≤ 15) (htv : tv < 2 ^ 29) (B0 : Beg o nb g0) (hn : n < nb) (M : Mid o nb np (nI tv) (nI hv) g0 g n n n n (fun _ => 0)) : Mid o nb np (nI tv) (nI hv) g0 (f_bus1 g o np n) (n + 1) (n + 1) (n + 1) (n + 1) (fun _ => 0) := by
  unfold f_bus1
  by_cases q : g (o + 14 + n) 2 = 0
  · rw [if_pos q]; exact mid_stand K0 hhv htv B0 hn q M
  · rw [if_neg q]; exact mid_drive K0 hhv B0 hn q M
theorem mid_buses (K0 : OkL o nb np g0) (hhv : hv ≤ 15) (htv : tv < 2 ^ 29) (B0 : Beg o nb g0) (M : Mid o nb np (nI tv) (nI hv) g0 g0 0 0 0 0 (fun _ => 0)) : ∀ n, n ≤ nb → Mid o nb np (nI tv) (nI hv) g0 (f_buses g0 o np n) n n n n (fun _ => 0)
  | 0, _ => M
  | n + 1, hn => mid_bus1 K0 hhv htv B0 (by omega) (mid_buses K0 hhv htv B0 M n (by omega))
/-- waiting: passengers below n -/
theorem waitN_at : ∀ {n : Nat}, n ≤ 50 → ∀ a, f_waitN g o n a = if o + 20 ≤ a ∧ a < o + 20 + n ∧ g a 0 = 0 then upd (g a) 5 (g a 5 + 1) else g a
  | 0, _, a => by rw [if_neg (by omega)]; rfl
  | n + 1, hn, a => by
    have ih := waitN_at (n := n) (by omega)
    have hrow : f_waitN g o n (o + 20 + n) = g (o + 20 + n) := by rw [ih, if_neg (by omega)]
    show f_wait1 (f_waitN g o n) o n a = _
    unfold f_wait1
    rw [hrow]
    by_cases e9 : a = o + 20 + n
    · subst e9
      by_cases q : g (o + 20 + n) 0 = 0
      · rw [if_pos q, if_pos ⟨by omega, by omega, q⟩, u2_row, hrow]
      · rw [if_neg q, if_neg (fun z => q z.2.2), hrow]
    · have hc : (o + 20 ≤ a ∧ a < o + 20 + (n + 1) ∧ g a 0 = 0) ↔ (o + 20 ≤ a ∧ a < o + 20 + n ∧ g a 0 = 0) := ⟨fun z => ⟨z.1, by omega, z.2.2⟩, fun z => ⟨z.1, by omega, z.2.2⟩⟩
      rw [show (if o + 20 ≤ a ∧ a < o + 20 + (n + 1) ∧ g a 0 = 0 then upd (g a) 5 (g a 5 + 1) else g a) = (if o + 20 ≤ a ∧ a < o + 20 + n ∧ g a 0 = 0 then upd (g a) 5 (g a 5 + 1) else g a) by simp only [hc], ← ih a]
      split
      · rw [u2_ne e9]
      · rfl
end MIN
end
section
/-! what is true of the line between two calls; a minute keeps it -/
def Ou (o nb np a : Nat) : Prop := (o + 14 + nb ≤ a ∧ a < o + 20) ∨ o + 20 + np ≤ a
section FX
variable {o nb np : Nat} {g : S2} {a : Nat}
theorem fx_offs (ha : Ou o nb np a) {B : Nat} : ∀ {n : Nat}, n ≤ np → (f_offs g o B n).1 a = g a
  | 0, _ => rfl
  | n + 1, h => by
    unfold f_offs f_offs1
    split
    · exact (off_ne (by unfold Ou at ha; omega)).trans (fx_offs ha (by omega))
    · exact fx_offs ha (by omega)
theorem fx_letOff (ha : Ou o nb np a) {j : Nat} (hj : j < nb) (h6 : nb ≤ 6) : f_letOff g o (o + 14 + j) np a = g a := by
  unfold f_letOff
  rw [u2_ne (by unfold Ou at ha; omega)]
  exact fx_offs ha (Nat.le_refl _)
theorem fx_ons (ha : Ou o nb np a) {j : Nat} (hj : j < nb) (h6 : nb ≤ 6) : ∀ {n : Nat}, n ≤ np → (f_ons g o (o + 14 + j) n).1 a = g a
  | 0, _ => rfl
  | n + 1, h => by
    unfold f_ons f_ons1
    split
    · exact (board_ne (by unfold Ou at ha; omega) (by unfold Ou at ha; omega)).trans (fx_ons ha hj h6 (by omega))
    · exact fx_ons ha hj h6 (by omega)
theorem fx_bus1 (ha : Ou o nb np a) (h : OkL o nb np g) {j : Nat} (hj : j < nb) : f_bus1 g o np j a = g a := by
  have h6 := h.1.2
  have hne : a ≠ o + 14 + j := by unfold Ou at ha; omega
  unfold f_bus1 f_stand
  split
  · have hc := ((okl_std1 h hj).2.2.2.1 j hj).1.cl.1
    have h1 : f_std1 g (o + 14 + j) a = g a := by
      unfold f_std1
      split
      · rw [u2_ne hne]
      · rfl
    unfold f_std2
    split
    · rw [u2_ne hne, u2_ne hne, u2_ne (by unfold Ou at ha; omega), h1]
    · exact h1
  · unfold f_drive
    split
    · rw [u2_ne hne]
    · rw [u2_ne hne, fx_ons ha hj h6 (Nat.le_refl _), fx_letOff ha hj h6]
      unfold f_arr
      rw [u2_ne hne, u2_ne hne, u2_ne hne]
theorem fx_buses (ha : Ou o nb np a) (h : OkL o nb np g) : ∀ {n : Nat}, n ≤ nb → f_buses g o np n a = g a
  | 0, _ => rfl
  | n + 1, hn => by
    unfold f_buses
    rw [fx_bus1 ha (okl_buses h n (by omega)) (by omega)]
    exact fx_buses ha h (by omega)
theorem fx_min (ha : Ou o nb np a) (h : OkL o nb np g) : f_min g o nb np a = g a := by
  unfold f_min f_tick
  have h6 := h.1.2
  rw [u2_ne (by unfold Ou at ha; omega), waitN_at h.2.1.2, if_neg (by unfold Ou at ha; omega)]
  exact fx_buses ha h (Nat.le_refl _)
end FX
def PasS (t : Int32) (A : Nat → Int32) (nb : Nat) (pr : Int32) (u v : Nat → Int32) : Prop :=
  v 2 = u 2 ∧ v 5 = u 5 + (if v 0 = 0 then 1 else 0) ∧ ((∀ k, k < 8 → k ≠ 5 → v k = u k) ∨
   (u 0 = 0 ∧ v 0 = 1 ∧ v 1 = u 1 ∧ (∃ j, j < nb ∧ v 3 = nI j ∧ A j = u 1) ∧ v 4 = u 4 + pr ∧ v 6 = u 6 ∧ v 7 = 0) ∨
   (u 0 = 1 ∧ v 0 = 2 ∧ v 1 = u 2 ∧ (∃ j, j < nb ∧ u 3 = nI j ∧ A j = u 2) ∧ v 3 = -1 ∧ v 4 = u 4 ∧ v 6 = t ∧ v 7 = u 7))
/-- what a minute does -/
def StepM (o nb np : Nat) (tv hv : Nat) (g0 g : S2) : Prop :=
  OkL o nb np g ∧ (g o 5 = nI (tv + 1) ∧ g o 6 = nI hv) ∧ (∀ i, i < 10 → StopR (nI tv) (g0 (o + 4 + i)) (g (o + 4 + i))) ∧
  (∀ j, j < nb → (∃ r0, r0 ≤ 40 ∧ g0 (o + 14 + j) 3 = nI r0 ∧ BusG (nI tv) (nI hv) (fun i => g0 (o + 4 + i)) (fun i => g (o + 4 + i)) (g0 (o + 14 + j)) (g (o + 14 + j)) r0) ∧ Tak 600 (g0 (o + 14 + j)) (g (o + 14 + j))) ∧
  (∀ p, p < np → PasS (nI tv) (fun j => g (o + 14 + j) 1) nb (prc g0 o p) (g0 (o + 20 + p)) (g (o + 20 + p))) ∧
  (∀ j, j < nb → RidOk g0 g o np (fun _ => 0) j) ∧
  sumF (fun q => g (o + 20 + q) 4) np = sumF (fun q => g (o + 14 + q) 6) nb ∧ (∀ a, Ou o nb np a → g a = g0 a)
/-- the start of a minute -/
def Bal (o nb np : Nat) (g : S2) : Prop := (∀ j, j < nb → ∃ z, z ≤ 20 ∧ g (o + 14 + j) 4 = nI z ∧ rid g o np j ≤ z ∧ g (o + 14 + j) 5 = nI (rid g o np j)) ∧ sumF (fun q => g (o + 20 + q) 4) np = sumF (fun q => g (o + 14 + q) 6) nb
theorem step_min {o nb np tv hv : Nat} {g0 : S2} (K0 : OkL o nb np g0) (hhv : hv ≤ 15) (htv : tv < 2 ^ 29) (h5 : g0 o 5 = nI tv) (h6 : g0 o 6 = nI hv) (B0 : Beg o nb g0) (hB : Bal o nb np g0) : StepM o nb np tv hv g0 (f_min g0 o nb np) := by
  have M0 : Mid o nb np (nI tv) (nI hv) g0 g0 0 0 0 0 (fun _ => 0) := by
    refine ⟨K0, ⟨h5, h6⟩, fun i _ => ⟨rfl, rfl, Or.inl rfl⟩, fun j hj => absurd hj (Nat.not_lt_zero j), fun _ _ _ _ _ => rfl, fun p _ => ⟨rfl, rfl, Or.inl (fun _ _ => rfl)⟩, fun j hj => ?_, hB.2⟩
    obtain ⟨z, z1, z2, z3, z4⟩ := hB.1 j hj
    exact ⟨z4, rfl, z, z1, z2, z3⟩
  have hfr : ∀ a, Ou o nb np a → f_min g0 o nb np a = g0 a := fun a ha => fx_min ha K0
  obtain ⟨a, ⟨b1, b2⟩, c, d, f, i, j, s⟩ := mid_buses K0 hhv htv B0 M0 nb (Nat.le_refl _)
  have hok : OkL o nb np (f_min g0 o nb np) := okl_min K0
  have hn6 := K0.1.2
  have h50 := K0.2.1.2
  have hrow : ∀ q, q ≠ o → f_min g0 o nb np q = if o + 20 ≤ q ∧ q < o + 20 + np ∧ f_buses g0 o np nb q 0 = 0 then upd (f_buses g0 o np nb q) 5 (f_buses g0 o np nb q 5 + 1) else f_buses g0 o np nb q := fun q hq => by
    unfold f_min f_tick
    rw [u2_ne hq, waitN_at h50]
  have hlow : ∀ q, q ≠ o → q < o + 20 → f_min g0 o nb np q = f_buses g0 o np nb q := fun q h1 h2 => by rw [hrow q h1, if_neg (by omega)]
  have hL : ∀ k, f_min g0 o nb np o k = if k = 5 then nI (tv + 1) else f_buses g0 o np nb o k := fun k => by
    unfold f_min f_tick
    have hw : f_waitN (f_buses g0 o np nb) o np o = f_buses g0 o np nb o := by rw [waitN_at h50, if_neg (by omega)]
    rw [u2_app, hw, b1, nI_1]
    by_cases e9 : k = 5
    · rw [if_pos ⟨rfl, e9⟩, if_pos e9]
    · rw [if_neg (fun z => e9 z.2), if_neg e9]
  have hP : ∀ p, p < np → ∀ k, f_min g0 o nb np (o + 20 + p) k = if k = 5 then f_buses g0 o np nb (o + 20 + p) 5 + (if f_buses g0 o np nb (o + 20 + p) 0 = 0 then 1 else 0) else f_buses g0 o np nb (o + 20 + p) k := fun p hp k => by
    rw [hrow _ (by omega)]
    by_cases q : f_buses g0 o np nb (o + 20 + p) 0 = 0
    · rw [if_pos ⟨by omega, by omega, q⟩, if_pos q]
      by_cases e9 : k = 5
      · subst e9; rw [if_pos rfl]; simp [upd]
      · rw [if_neg e9]; simp [upd, e9]
    · rw [if_neg (fun z => q z.2.2), if_neg q]
      by_cases e9 : k = 5
      · subst e9; rw [if_pos rfl, Int32.add_zero]
      · rw [if_neg e9]
  generalize f_min g0 o nb np = g at hfr hok hrow hlow hL hP ⊢
  generalize f_buses g0 o np nb = G at a b1 b2 c d f i j s hrow hlow hL hP
  refine ⟨hok, ⟨by rw [hL, if_pos rfl], by rw [hL, if_neg (by decide)]; exact b2⟩, fun z hz => by rw [hlow _ (by omega) (by omega)]; exact c z hz, fun z hz => ?_, fun p hp => ?_, fun z hz => ?_, ?_, hfr⟩
  · obtain ⟨⟨r0, d1, d2, d3⟩, d4⟩ := d z hz
    have hc := cl0 K0 hz
    rw [hlow _ (by omega) (by omega)]
    exact ⟨⟨r0, d1, d2, d3.mono hhv (Or.inl (by show g (o + 4 + cl (g0 (o + 14 + z) 1)) 2 = _; rw [hlow _ (by omega) (by omega)]))⟩, d4⟩
  · have hA : (fun j => g (o + 14 + j) 1) = fun j => if j < 6 then G (o + 14 + j) 1 else g (o + 14 + j) 1 := by
      funext j
      by_cases q : j < 6
      · rw [if_pos q, hlow _ (by omega) (by omega)]
      · rw [if_neg q]
    obtain ⟨p1, p2, p3⟩ := i p hp
    have hp0 := hP p hp
    refine ⟨by rw [hp0, if_neg (by decide)]; exact p1, by rw [hp0 5, if_pos rfl, hp0 0, if_neg (show ¬ (0 : Nat) = 5 by decide), p2], ?_⟩
    rcases p3 with h | ⟨c1, c2, c3, ⟨j, j1, j2, j3⟩, c4, c5, c6⟩ | ⟨c1, c2, c3, ⟨j, j1, j2, j3⟩, c4, c5, c6, c7⟩
    · exact Or.inl (fun k hk h5 => by rw [hp0, if_neg h5]; exact h k hk)
    · refine Or.inr (Or.inl ⟨c1, by rw [hp0, if_neg (by decide)]; exact c2, by rw [hp0, if_neg (by decide)]; exact c3, ⟨j, j1, by rw [hp0, if_neg (by decide)]; exact j2, ?_⟩, by rw [hp0, if_neg (by decide)]; exact c4, by rw [hp0, if_neg (by decide)]; exact c5, by rw [hp0, if_neg (by decide)]; exact c6⟩)
      show g (o + 14 + j) 1 = _
      rw [hlow _ (by omega) (by omega)]; exact j3
    · refine Or.inr (Or.inr ⟨c1, by rw [hp0, if_neg (by decide)]; exact c2, by rw [hp0, if_neg (by decide)]; exact c3, ⟨j, j1, j2, ?_⟩, by rw [hp0, if_neg (by decide)]; exact c4, by rw [hp0, if_neg (by decide)]; exact c5, by rw [hp0, if_neg (by decide)]; exact c6, by rw [hp0, if_neg (by decide)]; exact c7⟩)
      show g (o + 14 + j) 1 = _
      rw [hlow _ (by omega) (by omega)]; exact j3
  · have := j z hz
    unfold RidOk at this ⊢
    rw [rid_congr (g := G) (fun q hq => by rw [hP q hq, hP q hq, if_neg (by decide), if_neg (by decide)]; exact ⟨rfl, rfl⟩), hlow _ (by omega) (by omega)]
    exact this
  · exact (sumF_congr (fun z hz => by rw [hP z hz, if_neg (by decide)])).trans (s.trans (sumF_congr (fun z hz => by rw [hlow _ (by omega) (by omega)])).symm)
def PasI (nb : Nat) (v : Nat → Int32) : Prop := (v 0 = 0 ∨ v 0 = 1 ∨ v 0 = 2) ∧ (v 0 = 1 → ∃ j, j < nb ∧ v 3 = nI j) ∧ (¬ v 0 = 1 → v 3 = -1) ∧ ((v 0 = 2 ∨ ¬ v 7 = 0) → ¬ v 6 < 0)
/-- between two calls, tv minutes on -/
def Inv (o nb np tv : Nat) (g : S2) : Prop :=
  OkL o nb np g ∧ (g o 5 = nI tv ∧ ∃ hv, hv ≤ 15 ∧ g o 6 = nI hv) ∧
  (∀ i, i < 10 → (∃ m, 1 ≤ m ∧ m ≤ 9 ∧ g (o + 4 + i) 0 = nI m) ∧ (∃ z, z ≤ 9 ∧ g (o + 4 + i) 1 = nI z) ∧ (g (o + 4 + i) 2 = -1 ∨ ∃ a, a < tv ∧ g (o + 4 + i) 2 = nI a)) ∧
  (∀ j, j < nb → (∃ r, r ≤ 40 ∧ g (o + 14 + j) 3 = nI r ∧ (g (o + 14 + j) 2 = 1 → 1 ≤ r)) ∧ ∃ a, a ≤ 600 * tv ∧ g (o + 14 + j) 6 = nI a) ∧
  Bal o nb np g ∧ (∀ p, p < np → PasI nb (g (o + 20 + p))) ∧
  ((∀ j, nb ≤ j → j < 6 → g (o + 14 + j) 2 = 0 ∧ g (o + 14 + j) 5 = 0 ∧ g (o + 14 + j) 6 = 0) ∧ ∀ p, np ≤ p → p < 50 → g (o + 20 + p) 0 = 0 ∧ g (o + 20 + p) 3 = -1 ∧ g (o + 20 + p) 4 = 0 ∧ g (o + 20 + p) 7 = 0)
theorem Inv.beg {o nb np tv : Nat} {g : S2} (I : Inv o nb np tv g) (ht : tv ≤ 1000) : Beg o nb g := fun j hj => by
  obtain ⟨⟨r, r1, r2, r3⟩, a, a1, a2⟩ := I.2.2.2.1 j hj
  exact ⟨⟨r, r1, r2, r3⟩, a, by omega, a2⟩
theorem Inv.step {o nb np tv : Nat} {g : S2} (I : Inv o nb np tv g) (ht : tv ≤ 1000) : ∃ hv, hv ≤ 15 ∧ g o 6 = nI hv ∧ StepM o nb np tv hv g (f_min g o nb np) := by
  obtain ⟨hv, h1, h2⟩ := I.2.1.2
  exact ⟨hv, h1, h2, step_min I.1 h1 (by omega) I.2.1.1 h2 (I.beg ht) I.2.2.2.2.1⟩
theorem Inv.min {o nb np tv : Nat} {g : S2} (I : Inv o nb np tv g) (ht : tv ≤ 1000) : Inv o nb np (tv + 1) (f_min g o nb np) := by
  obtain ⟨hv, hh, h6, ⟨a, ⟨b1, b2⟩, c, d, i, j, s, fr⟩⟩ := I.step ht
  obtain ⟨K0, -, iS, iB, iBal, iP, iF⟩ := I
  have hn6 := K0.1.2
  have h50 := K0.2.1.2
  generalize f_min g o nb np = g1 at a b1 b2 c d i j s fr ⊢
  refine ⟨a, ⟨b1, hv, hh, b2⟩, fun z hz => ?_, fun z hz => ?_, ⟨fun z hz => ?_, s⟩, fun p hp => ?_, fun z h1 h2 => ?_, fun p h1 h2 => ?_⟩
  · obtain ⟨c1, c2, c3⟩ := c z hz
    obtain ⟨s1, s2, s3⟩ := iS z hz
    rw [c1, c2]
    refine ⟨s1, s2, ?_⟩
    rcases c3 with q | q
    · rw [q]
      rcases s3 with y | ⟨y, y1, y2⟩
      · exact Or.inl y
      · exact Or.inr ⟨y, by omega, y2⟩
    · exact Or.inr ⟨tv, by omega, q⟩
  · obtain ⟨⟨r0, d1, d2, d3⟩, u, w, w1, w2, w3, w4⟩ := d z hz
    obtain ⟨⟨r, r1, r2, r3⟩, x, x1, x2⟩ := iB z hz
    refine ⟨?_, u + w, ?_, w4⟩
    · rcases d3 with q | ⟨q1, q2, q3, q4, y, y1, y2, y3⟩ | q | q
      · exact ⟨r0 - 1, by omega, q.2.2.2.2, fun _ => by omega⟩
      · exact ⟨y, y2, y3, fun _ => y1⟩
      · exact ⟨r0 - 1, by omega, q.2.2.2.1, fun z => absurd (q.2.1.symm.trans z) (by decide)⟩
      · obtain ⟨m, m1, m2, m3⟩ := (iS _ (cl0 K0 hz)).1
        exact ⟨m, by omega, q.2.2.2.2.1.trans m3, fun _ => m1⟩
    · have : u = x := (nI_eq (by omega) (by omega)).mp (w3.symm.trans x2)
      omega
  · obtain ⟨r1, r2, y, y1, y2, y3⟩ := j z hz
    exact ⟨y, y1, r2.trans y2, y3, r1⟩
  · obtain ⟨s1, s2, s3, s4⟩ := iP p hp
    obtain ⟨p1, p2, h | ⟨c1, c2, c3, ⟨q, q1, q2, q3⟩, c4, c5, c6⟩ | ⟨c1, c2, c3, c8, c4, c5, c6, c7⟩⟩ := i p hp
    · unfold PasI
      rw [h 0 (by decide) (by decide), h 3 (by decide) (by decide), h 6 (by decide) (by decide), h 7 (by decide) (by decide)]
      exact ⟨s1, s2, s3, s4⟩
    · refine ⟨Or.inr (Or.inl c2), fun _ => ⟨q, q1, q2⟩, fun z => absurd c2 z, fun z => ?_⟩
      rcases z with z | z
      · exact absurd (c2.symm.trans z) (by decide)
      · exact absurd c6 z
    · refine ⟨Or.inr (Or.inr c2), fun z => absurd (c2.symm.trans z) (by decide), fun _ => c4, fun _ => ?_⟩
      rw [c6]; exact nI_pos (by omega)
  · rw [fr _ (Or.inl (by omega))]; exact iF.1 z h1 h2
  · rw [fr _ (Or.inr (by omega))]; exact iF.2 p h1 h2
theorem Inv.mins {o nb np : Nat} {g : S2} : ∀ (n : Nat) {tv : Nat}, tv + n ≤ 1000 → Inv o nb np tv g → Inv o nb np (tv + n) (f_mins g o nb np n)
  | 0, _, _, I => I
  | n + 1, tv, h, I => by
    have h9 := Inv.min (tv := tv + n) (Inv.mins n (by omega) I) (by omega)
    exact h9
end
section
/-! what the calls do keeps what is true of the line -/
section OPS
variable {o nb np tv : Nat} {g : S2}
theorem Inv.eq {g' : S2} (I : Inv o nb np tv g) (h : ∀ a, o ≤ a → a < o + 70 → g' a = g a) : Inv o nb np tv g' := by
  obtain ⟨a, ⟨b1, hv, b2, b3⟩, c, d, ⟨f1, f2⟩, i, j1, j2⟩ := I
  have hn6 := a.1.2
  have h50 := a.2.1.2
  refine ⟨okl_eq a h, ⟨by rw [h o (by omega) (by omega)]; exact b1, hv, b2, by rw [h o (by omega) (by omega)]; exact b3⟩, fun z hz => by rw [h _ (by omega) (by omega)]; exact c z hz, fun z hz => by rw [h _ (by omega) (by omega)]; exact d z hz, ⟨fun z hz => ?_, ?_⟩, fun p hp => by rw [h _ (by omega) (by omega)]; exact i p hp, fun z h1 h2 => by rw [h _ (by omega) (by omega)]; exact j1 z h1 h2, fun z h1 h2 => by rw [h _ (by omega) (by omega)]; exact j2 z h1 h2⟩
  · rw [rid_congr (g := g) (fun q hq => by rw [h _ (by omega) (by omega)]; exact ⟨rfl, rfl⟩), h _ (by omega) (by omega)]
    exact f1 z hz
  · exact (sumF_congr (fun z hz => by rw [h _ (by omega) (by omega)])).trans (f2.trans (sumF_congr (fun z hz => by rw [h _ (by omega) (by omega)])).symm)
theorem Inv.hold (I : Inv o nb np tv g) {k : Nat} (hk : k ≤ 15) : Inv o nb np tv (u2 g o 6 (nI k)) := by
  obtain ⟨a, ⟨b1, hv, b2, b3⟩, c, d, ⟨f1, f2⟩, i, j1, j2⟩ := I
  have hn6 := a.1.2
  have h50 := a.2.1.2
  have h : ∀ q, q ≠ o → u2 g o 6 (nI k) q = g q := fun q hq => u2_ne hq
  refine ⟨OkL.L a (by decide), ⟨by rw [u2_k (by decide)]; exact b1, k, hk, u2_s⟩, fun z hz => by rw [h _ (by omega)]; exact c z hz, fun z hz => by rw [h _ (by omega)]; exact d z hz, ⟨fun z hz => ?_, ?_⟩, fun p hp => by rw [h _ (by omega)]; exact i p hp, fun z h1 h2 => by rw [h _ (by omega)]; exact j1 z h1 h2, fun z h1 h2 => by rw [h _ (by omega)]; exact j2 z h1 h2⟩
  · rw [rid_congr (g := g) (fun q hq => by rw [h _ (by omega)]; exact ⟨rfl, rfl⟩), h _ (by omega)]
    exact f1 z hz
  · exact (sumF_congr (fun z hz => by rw [h _ (by omega)])).trans (f2.trans (sumF_congr (fun z hz => by rw [h _ (by omega)])).symm)
theorem Inv.set (I : Inv o nb np tv g) {k m z : Nat} (hk : k < 10) (hm1 : 1 ≤ m) (hm : m ≤ 9) (hz : z ≤ 9) : Inv o nb np tv (u2 (u2 g (o + 4 + k) 0 (nI m)) (o + 4 + k) 1 (nI z)) := by
  obtain ⟨a, ⟨b1, hv, b2, b3⟩, c, d, ⟨f1, f2⟩, i, j1, j2⟩ := I
  have hn6 := a.1.2
  have h50 := a.2.1.2
  have h : ∀ q, q ≠ o + 4 + k → u2 (u2 g (o + 4 + k) 0 (nI m)) (o + 4 + k) 1 (nI z) q = g q := fun q hq => by rw [u2_ne hq, u2_ne hq]
  refine ⟨OkL.S (OkL.S a hk) hk, ⟨by rw [h _ (by omega)]; exact b1, hv, b2, by rw [h _ (by omega)]; exact b3⟩, fun y hy => ?_, fun z hz => by rw [h _ (by omega)]; exact d z hz, ⟨fun z hz => ?_, ?_⟩, fun p hp => by rw [h _ (by omega)]; exact i p hp, fun z h1 h2 => by rw [h _ (by omega)]; exact j1 z h1 h2, fun z h1 h2 => by rw [h _ (by omega)]; exact j2 z h1 h2⟩
  · by_cases e9 : y = k
    · subst e9
      exact ⟨⟨m, hm1, hm, by rw [u2_k (by decide), u2_s]⟩, ⟨z, hz, u2_s⟩, by rw [u2_k (by decide), u2_k (by decide)]; exact (c y hy).2.2⟩
    · rw [h _ (by omega)]; exact c y hy
  · rw [rid_congr (g := g) (fun q hq => by rw [h _ (by omega)]; exact ⟨rfl, rfl⟩), h _ (by omega)]
    exact f1 z hz
  · exact (sumF_congr (fun z hz => by rw [h _ (by omega)])).trans (f2.trans (sumF_congr (fun z hz => by rw [h _ (by omega)])).symm)
theorem Inv.again (I : Inv o nb np tv g) {p k : Nat} {t : Int32} (hp : p < np) (hk : k < 10) (h2 : g (o + 20 + p) 0 = 2) : Inv o nb np tv (f_again g (o + 20 + p) (nI k) t) := by
  obtain ⟨a, ⟨b1, hv, b2, b3⟩, c, d, ⟨f1, f2⟩, i, j1, j2⟩ := I
  have hn6 := a.1.2
  have h50 := a.2.1.2
  have h : ∀ q, q ≠ o + 20 + p → f_again g (o + 20 + p) (nI k) t q = g q := fun q hq => by unfold f_again; rw [u2_ne hq, u2_ne hq, u2_ne hq]
  have hr : ∀ j, f_again g (o + 20 + p) (nI k) t (o + 20 + p) j = if j = 2 then nI k else if j = 0 then 0 else if j = 7 then (if 20 < t - g (o + 20 + p) 6 then 0 else 1) else g (o + 20 + p) j := fun j => by
    unfold f_again
    simp only [u2_app]
    simp
  refine ⟨?_, ⟨by rw [h _ (by omega)]; exact b1, hv, b2, by rw [h _ (by omega)]; exact b3⟩, fun z hz => by rw [h _ (by omega)]; exact c z hz, fun z hz => by rw [h _ (by omega)]; exact d z hz, ⟨fun z hz => ?_, ?_⟩, fun q hq => ?_, fun z h1 h2 => by rw [h _ (by omega)]; exact j1 z h1 h2, fun z h1 h2 => by rw [h _ (by omega)]; exact j2 z h1 h2⟩
  · unfold f_again
    exact OkL.P (OkL.P (OkL.P a (by omega) (by omega) (fun _ => by split; exact Or.inl rfl; exact Or.inr rfl)) (by omega) (by omega) (by omega)) (by omega) (fun _ => ⟨k, hk, rfl⟩) (by omega)
  · have e : rid (f_again g (o + 20 + p) (nI k) t) o np z = rid g o np z := cnB_congr (fun q hq => by
      by_cases e9 : q = p
      · subst e9
        rw [hr, if_neg (by decide), if_pos rfl, h2]
        simp
      · rw [h _ (by omega)])
    rw [e, h _ (by omega)]
    exact f1 z hz
  · exact (sumF_congr (fun z hz => by
      by_cases e9 : z = p
      · subst e9; rw [hr]; rfl
      · rw [h _ (by omega)])).trans (f2.trans (sumF_congr (fun z hz => by rw [h _ (by omega)])).symm)
  · by_cases e9 : q = p
    · subst e9
      obtain ⟨s1, s2, s3, s4⟩ := i q hq
      have h00 : f_again g (o + 20 + q) (nI k) t (o + 20 + q) 0 = 0 := hr 0
      exact ⟨Or.inl h00, fun z => absurd (h00.symm.trans z) (by decide), fun _ => (hr 3).trans (s3 (by rw [h2]; decide)), fun _ => by rw [hr 6]; exact s4 (Or.inl h2)⟩
    · rw [h _ (by omega)]; exact i q hq
theorem Inv.addBus (I : Inv o nb np tv g) {x y : Nat} (hlt : nb < 6) (hx : x < 10) (hy : y ≤ 20) : Inv o (nb + 1) np tv (f_addBus g o nb (nI x) (nI y)) := by
  obtain ⟨a, ⟨b1, hv, b2, b3⟩, c, d, ⟨f1, f2⟩, i, j1, j2⟩ := I
  have h50 := a.2.1.2
  obtain ⟨n1, n2, n3⟩ := j1 nb (Nat.le_refl _) hlt
  have h : ∀ q, q ≠ o + 14 + nb → q ≠ o → f_addBus g o nb (nI x) (nI y) q = g q := fun q hq hq2 => by unfold f_addBus; rw [u2_ne hq2, u2_ne hq, u2_ne hq, u2_ne hq]
  have hr : ∀ j, f_addBus g o nb (nI x) (nI y) (o + 14 + nb) j = if j = 4 then nI y else if j = 3 then 1 else if j = 1 then nI x else g (o + 14 + nb) j := fun j => by
    unfold f_addBus
    rw [u2_ne (by omega)]
    simp only [u2_app]
    simp
  have hl : ∀ j, f_addBus g o nb (nI x) (nI y) o j = if j = 3 then nI (nb + 1) else g o j := fun j => by
    unfold f_addBus
    rw [u2_app, u2_ne (by omega), u2_ne (by omega), u2_ne (by omega)]
    simp
  have hrid : ∀ z, rid (f_addBus g o nb (nI x) (nI y)) o np z = rid g o np z := fun z => rid_congr (fun q hq => by rw [h _ (by omega) (by omega)]; exact ⟨rfl, rfl⟩)
  have hnew : rid g o np nb = 0 := by
    have h0 : ∀ m, cnB (fun _ => false) m = 0 := fun m => by
      induction m with
      | zero => rfl
      | succ m ih => unfold cnB; rw [ih]; rfl
    refine Eq.trans (cnB_congr (r := fun _ => false) (fun q hq => ?_)) (h0 np)
    obtain ⟨s1, s2, s3, s4⟩ := i q hq
    refine decide_eq_false (fun z => ?_)
    obtain ⟨k, k1, k2⟩ := s2 z.1
    exact absurd (k2.symm.trans z.2) (nI_ne (by omega) (by omega) (by omega))
  obtain ⟨⟨l1, l2⟩, ⟨l3, l4⟩, l5, l6, l7⟩ := a
  refine ⟨⟨⟨by rw [hl]; rfl, by omega⟩, ⟨by rw [hl]; exact l3, l4⟩, fun z hz => ?_, fun z hz => ?_, fun z hz => by rw [h _ (by omega) (by omega)]; exact l7 z hz⟩, ⟨by rw [hl]; exact b1, hv, b2, by rw [hl]; exact b3⟩, fun z hz => by rw [h _ (by omega) (by omega)]; exact c z hz, fun z hz => ?_, ⟨fun z hz => ?_, ?_⟩, fun q hq => ?_, fun z h1 h2 => by rw [h _ (by omega) (by omega)]; exact j1 z (by omega) h2, fun z h1 h2 => by rw [h _ (by omega) (by omega)]; exact j2 z h1 h2⟩
  · by_cases e9 : z = nb
    · subst e9; rw [hr]; exact l5 z hz
    · rw [h _ (by omega) (by omega)]; exact l5 z hz
  · by_cases e9 : z = nb
    · subst e9
      exact ⟨⟨x, hx, hr 1⟩, Or.inl ((hr 2).trans n1)⟩
    · rw [h _ (by omega) (by omega)]; exact l6 z (by omega)
  · by_cases e9 : z = nb
    · subst e9
      exact ⟨⟨1, by decide, hr 3, fun _ => by omega⟩, 0, by omega, (hr 6).trans n3⟩
    · rw [h _ (by omega) (by omega)]; exact d z (by omega)
  · rw [hrid]
    by_cases e9 : z = nb
    · subst e9
      exact ⟨y, hy, hr 4, by omega, by rw [hnew]; exact (hr 5).trans n2⟩
    · rw [h _ (by omega) (by omega)]; exact f1 z (by omega)
  · have e1 : sumF (fun q => f_addBus g o nb (nI x) (nI y) (o + 20 + q) 4) np = sumF (fun q => g (o + 20 + q) 4) np := sumF_congr (fun z hz => by rw [h _ (by omega) (by omega)])
    have e2 : sumF (fun q => f_addBus g o nb (nI x) (nI y) (o + 14 + q) 6) nb = sumF (fun q => g (o + 14 + q) 6) nb := sumF_congr (fun z hz => by rw [h _ (by omega) (by omega)])
    show _ = sumF _ nb + f_addBus g o nb (nI x) (nI y) (o + 14 + nb) 6
    rw [e1, e2, hr, f2, show (if (6 : Nat) = 4 then nI y else if (6 : Nat) = 3 then 1 else if (6 : Nat) = 1 then nI x else g (o + 14 + nb) 6) = 0 from n3, Int32.add_zero]
  · obtain ⟨s1, s2, s3, s4⟩ := i q hq
    rw [h _ (by omega) (by omega)]
    exact ⟨s1, fun z => by obtain ⟨k, k1, k2⟩ := s2 z; exact ⟨k, by omega, k2⟩, s3, s4⟩
theorem Inv.addPas (I : Inv o nb np tv g) {x y : Nat} (hlt : np < 50) (hx : x < 10) (hy : y < 10) : Inv o nb (np + 1) tv (f_addPas g o np (nI x) (nI y)) := by
  obtain ⟨a, ⟨b1, hv, b2, b3⟩, c, d, ⟨f1, f2⟩, i, j1, j2⟩ := I
  have hn6 := a.1.2
  obtain ⟨n1, n2, n3, n4⟩ := j2 np (Nat.le_refl _) hlt
  have h : ∀ q, q ≠ o + 20 + np → q ≠ o → f_addPas g o np (nI x) (nI y) q = g q := fun q hq hq2 => by unfold f_addPas; rw [u2_ne hq2, u2_ne hq, u2_ne hq]
  have hr : ∀ j, f_addPas g o np (nI x) (nI y) (o + 20 + np) j = if j = 2 then nI y else if j = 1 then nI x else g (o + 20 + np) j := fun j => by
    unfold f_addPas
    rw [u2_ne (by omega)]
    simp only [u2_app]
    simp
  have hl : ∀ j, f_addPas g o np (nI x) (nI y) o j = if j = 4 then nI (np + 1) else g o j := fun j => by
    unfold f_addPas
    rw [u2_app, u2_ne (by omega), u2_ne (by omega)]
    simp
  have hrid : ∀ z, rid (f_addPas g o np (nI x) (nI y)) o (np + 1) z = rid g o np z := fun z => by
    show rid (f_addPas g o np (nI x) (nI y)) o np z + _ = _
    rw [rid_congr (g := g) (fun q hq => by rw [h _ (by omega) (by omega)]; exact ⟨rfl, rfl⟩), if_neg (by
      dsimp only
      rw [hr, if_neg (by decide), if_neg (by decide), n1]; simp)]
    rfl
  obtain ⟨⟨l1, l2⟩, ⟨l3, l4⟩, l5, l6, l7⟩ := a
  refine ⟨⟨⟨by rw [hl]; exact l1, l2⟩, ⟨by rw [hl]; rfl, by omega⟩, fun z hz => by rw [h _ (by omega) (by omega)]; exact l5 z hz, fun z hz => by rw [h _ (by omega) (by omega)]; exact l6 z hz, fun z hz => ?_⟩, ⟨by rw [hl]; exact b1, hv, b2, by rw [hl]; exact b3⟩, fun z hz => by rw [h _ (by omega) (by omega)]; exact c z hz, fun z hz => by rw [h _ (by omega) (by omega)]; exact d z hz, ⟨fun z hz => ?_, ?_⟩, fun q hq => ?_, fun z h1 h2 => by rw [h _ (by omega) (by omega)]; exact j1 z h1 h2, fun z h1 h2 => by rw [h _ (by omega) (by omega)]; exact j2 z (by omega) h2⟩
  · by_cases e9 : z = np
    · subst e9
      exact ⟨⟨x, hx, hr 1⟩, ⟨y, hy, hr 2⟩, Or.inl ((hr 7).trans n4)⟩
    · rw [h _ (by omega) (by omega)]; exact l7 z (by omega)
  · rw [hrid, h _ (by omega) (by omega)]; exact f1 z hz
  · have e1 : sumF (fun q => f_addPas g o np (nI x) (nI y) (o + 20 + q) 4) np = sumF (fun q => g (o + 20 + q) 4) np := sumF_congr (fun z hz => by rw [h _ (by omega) (by omega)])
    have e2 : sumF (fun q => f_addPas g o np (nI x) (nI y) (o + 14 + q) 6) nb = sumF (fun q => g (o + 14 + q) 6) nb := sumF_congr (fun z hz => by rw [h _ (by omega) (by omega)])
    show sumF _ np + f_addPas g o np (nI x) (nI y) (o + 20 + np) 4 = _
    rw [e1, e2, hr, f2, show (if (4 : Nat) = 2 then nI y else if (4 : Nat) = 1 then nI x else g (o + 20 + np) 4) = 0 from n3, Int32.add_zero]
  · by_cases e9 : q = np
    · subst e9
      exact ⟨Or.inl ((hr 0).trans n1), fun z => absurd (((hr 0).trans n1).symm.trans z) (by decide), fun _ => (hr 3).trans n2, fun z => by
        rcases z with z | z
        · exact absurd (((hr 0).trans n1).symm.trans z) (by decide)
        · exact absurd ((hr 7).trans n4) z⟩
    · rw [h _ (by omega) (by omega)]; exact i q (by omega)
end OPS
theorem NumT.kp {g g1 : S2} (h : NumT g) (he : ∀ a, 85 ≤ a → a < 91 → g1 a = g a) : NumT g1 := fun j hj => by rw [he _ (by omega) (by omega)]; exact h j hj
theorem inv_born : Inv 1 0 0 0 g00 := by
  have hL : isL 1 := Or.inl rfl
  refine ⟨⟨⟨g00_L hL, by omega⟩, ⟨g00_L hL, by omega⟩, fun j hj => (g00_B hL hj).1, fun j hj => absurd hj (Nat.not_lt_zero j), fun j hj => absurd hj (Nat.not_lt_zero j)⟩, ⟨g00_L hL, 0, by omega, g00_L hL⟩, fun i hi => ?_, fun j hj => absurd hj (Nat.not_lt_zero j), ⟨fun j hj => absurd hj (Nat.not_lt_zero j), rfl⟩, fun j hj => absurd hj (Nat.not_lt_zero j), fun j _ hj => ?_, fun p _ hp => ?_⟩
  · obtain ⟨e0, e1, e2⟩ := g00_S hL hi
    exact ⟨⟨2, by omega, by omega, e0⟩, ⟨i / 2, by omega, e1⟩, Or.inl e2⟩
  · have e := (g00_B hL hj).2
    exact ⟨e _ (by decide), e _ (by decide), e _ (by decide)⟩
  · have e := g00_P hL hp
    rw [e, e, e, e]
    exact ⟨rfl, rfl, rfl, rfl⟩
theorem numT_born : NumT g00 := fun j hj => (g00_B (Or.inr rfl) hj).1
end
section
/-! the law's own rows: script, helpers, its arrays -/
set_option maxRecDepth 20000 in
theorem q_314 : Cond.constant RL 7 2147483647 ∈ lw_good := gw (2 + 314) (by decide +kernel) rfl
set_option maxRecDepth 20000 in
theorem q_318 : Cond.constant RL 8 790386105 ∈ lw_good := gw (2 + 318) (by decide +kernel) rfl
theorem m_ofWH {l : Launch} {y : MethodName} {ws ws' : List Cond} {rm : Room} {Pc : Array Value → State → Prop} {Qc : Array Value → State → Outcome → State → Prop} {mc ms : Nat} {free : Addr → Prop} {cc : ByteArray} {maxL : Nat} {ret : Option FieldType} {hh : List (Nat × Nat × Nat × Nat)}
    (hy : plainName y.cls = true) (hw : ws = Cond.codeWith y cc maxL ret hh :: ws')
    (body : ∀ p e s m args below meth c s₁, BodyLoose p l y (headSpec ws rm) cc maxL ret e s m args below meth c s₁ → c.maxLocals = maxL → Pc args s →
      W p l e (headSpec ws rm).room s m args below meth c s.heap [] 0 0 (MQ below Qc args s mc ms free) (entryFrame m args maxL)) : Met l y ws rm Pc Qc mc ms free := by
  refine MetFree.of_bodyS (code := cc) (maxLocals := maxL) (ret := ret) hy ?_ ?_
  · intro args s m h hn
    obtain ⟨m9, meth, c, hn9, h1, h2, h3, h4, -, h5, h6, -⟩ := Cond.codeWith_spec (atoms_spec (ws := ws) h _ (by rw [hw]; exact List.mem_cons_self))
    cases hn.symm.trans hn9
    exact ⟨meth, c, h1, h2, h3, h4, h5, h6⟩
  · intro p e s m args below meth c s₁ B hml hP _
    have hh0 : s₁.heap = s.heap := by rw [B.state]; rfl
    obtain ⟨t, a1, o, b1, b2, b3⟩ := body p e s m args below meth c s₁ B hml hP s₁ hh0 (Stand.of_body B)
    exact ⟨t, o, a1, b1, b2, b3⟩
abbrev wsh (y : MethodName) (cc : ByteArray) (n : Nat) (ret : Option FieldType) (hh : List (Nat × Nat × Nat × Nat)) : List Cond := Cond.codeWith y cc n ret hh :: lw_good
theorem hts_h {y : MethodName} {cc : ByteArray} {n : Nat} {ret : Option FieldType} {hh : List (Nat × Nat × Nat × Nat)} {args : Array Value} {s : State} (h : ∀ w ∈ wsh y cc n ret hh, w.before args s = true) : ∀ w ∈ lw_good, w.before args s = true := fun w hw => h w (List.mem_cons_of_mem _ hw)
theorem good_h {y : MethodName} {cc : ByteArray} {n : Nat} {ret : Option FieldType} {hh : List (Nat × Nat × Nat × Nat)} (h : Cond.codeWith y cc n ret hh ∈ lw_good) : GoodIn lw_good (wsh y cc n ret hh) := by
  intro w hw
  rcases List.mem_cons.mp hw with rfl | hw
  · exact ⟨h, good_of_word (lw_good_word h)⟩
  · exact ⟨hw, good_of_word (lw_good_word hw)⟩
/-- as KT, apart from all cells from h0 on -/
def KTL (h0 : Nat) (U : State) (H : Heap) : Prop :=
  vx_Zq Bundle.tN "UNASSIGNED_STACK" Bundle.steD (AB h0) U H ∧ vx_Zq Bundle.tN "SUPPRESSED_SENTINEL" Bundle.listD (AB h0) U H ∧ (∀ q ∈ strs, ∃ sa : Nat, vk_R RX4 q.1 q.2 sa U) ∧ ∀ q ∈ ncs, va_Nc q.1 q.2 U
theorem KTL.go {h0 b : Nat} {s U : State} {H : Heap} {locs : List Loc} (k : KTL h0 s s.heap) (hb0 : h0 ≤ b) (hS : va_S (AB h0) s.heap H locs) (hW : s.WarmedH U.vm) (hU : U.heap = H) : KT b U U.heap := by
  rw [hU]
  exact ⟨vx_Zq.narrow (vx_Zq.moved hW.alike (k.1.kept hS.2.1)) (fun q h => Nat.le_trans hb0 h.1), vx_Zq.narrow (vx_Zq.moved hW.alike (k.2.1.kept hS.2.1)) (fun q h => Nat.le_trans hb0 h.1), fun q hq => ⟨_, vk_R.warm hW (k.2.2.1 q hq).choose_spec⟩, fun q hq => va_Nc.moved hW.alike (k.2.2.2 q hq)⟩
theorem KTL.goL {h0 : Nat} {s U : State} {H : Heap} {locs : List Loc} (k : KTL h0 s s.heap) (hS : va_S (AB h0) s.heap H locs) (hW : s.WarmedH U.vm) (hU : U.heap = H) : KTL h0 U U.heap := by
  rw [hU]
  exact ⟨vx_Zq.moved hW.alike (k.1.kept hS.2.1), vx_Zq.moved hW.alike (k.2.1.kept hS.2.1), fun q hq => ⟨_, vk_R.warm hW (k.2.2.1 q hq).choose_spec⟩, fun q hq => va_Nc.moved hW.alike (k.2.2.2 q hq)⟩
theorem KTL.blind {h0 : Nat} {U : State} {g : JFrame} {mk : MethodId} {a : Array Value} (k : KTL h0 U U.heap) : KTL h0 (U.calling g mk a) (U.calling g mk a).heap :=
  ⟨vx_Zq.moved (u := U) (U := U.calling g mk a) (Vm.Alike.refl U.vm) k.1, vx_Zq.moved (u := U) (U := U.calling g mk a) (Vm.Alike.refl U.vm) k.2.1, fun q hq => ⟨_, vk_R.same (u := U) (U := U.calling g mk a) rfl (k.2.2.1 q hq).choose_spec⟩, fun q hq => va_Nc.moved (u := U) (U := U.calling g mk a) (Vm.Alike.refl U.vm) (k.2.2.2 q hq)⟩
def QB (k : Nat) : Array Value → State → Outcome → State → Prop := fun _ st o t => ∃ j, j < k ∧ o = .returned (some (.int (nI j))) ∧ t.heap = st.heap
def QE : Array Value → State → Outcome → State → Prop := fun _ st o t => ∃ r : Int32, o = .returned (some (.int r)) ∧ t.heap = st.heap
def PreP (av : List Value) : Array Value → State → Prop := va_Pc av (fun _ => True)
theorem PreP_blind {av : List Value} : FrameBlind (PreP av) := fun _ _ _ _ q => ⟨q.1, trivial⟩
def PreS' (sb L : Nat) (xs : Nat → Int32) (av : List Value) : Array Value → State → Prop := va_Pc av (fun U => va_X sb L xs U U.heap ∧ sb < U.heap.size)
theorem PreS'_blind {sb L : Nat} {xs : Nat → Int32} {av : List Value} : FrameBlind (PreS' sb L xs av) := fun _ U _ _ q => ⟨q.1, va_X.moved (u := U) (Vm.Alike.refl U.vm) q.2.1, q.2.2⟩
set_option maxRecDepth 100000 in
theorem metL_below (l : Launch) (v : Int32) {k : Nat} (h1 : 1 ≤ k) (hk : k < 2 ^ 31) : Met l yL_below (wsg yL_below cL_below 2 (some .int)) ({ frames := 0, cells := 0, slots := 0, locals := 0 }) (PreP [.int v, .int (nI k)]) (QB k) 0 0 NO := by
  refine Met.ofW (cc := cL_below) (maxL := 2) (ret := (some .int)) (by decide) rfl ?_
  intro p e s m args below meth c s₁ Bo hml hv
  obtain ⟨rfl, -⟩ := hv
  have hx := Bo.exec
  have hb := Bo.bytes
  have hr := Bo.returns
  have hts := hts_of (atoms_spec (ws := wsg yL_below cL_below 2 (some .int)) Bo.pre)
  have hown : s.vm.findClass RL = some m.cls := findClass_of_methodNamed Bo.named
  have hlocks := Bo.notSynchronized
  have hl := lv_entry ([.int v, .int (nI k)]) (n := 2) (Nat.le_of_ble_eq_true rfl)
  rw [lg_entry_eq]
  generalize (lg_sl ([.int v, .int (nI k)]) ++ List.replicate (2 - (lg_sl ([.int v, .int (nI k)])).length) Slot.unset).toArray = ls at hl ⊢
  have hl : lv_has ls 2 [(0, .int v), (1, .int (nI k))] := hl
  refine lv_iload_n hx hb dL_below_0 rfl (lv_at hl 0 rfl) ?_
  refine lv_ldc hx hb hown (hts _ q_314) dL_below_1 ?_
  refine lv_iand hx hb dL_below_3 ?_
  obtain ⟨j, hj, ej⟩ := pk_andE v (m := 2147483647) 31 rfl
  refine w_top ej ?_
  refine lv_iload_n hx hb dL_below_4 rfl (lv_at hl 1 rfl) ?_
  refine lv_irem hx hb dL_below_5 (nI_ne0 h1 hk) ?_
  refine w_top (y := nI (j % k)) (pk_rem hj h1 hk) ?_
  exact W.iret (v := nI (j % k)) hx hb hr (fun t9 ht9 _ => ⟨j % k, Nat.mod_lt _ h1, rfl, ht9⟩) (fun q hq => absurd hq List.not_mem_nil) dL_below_6
set_option maxRecDepth 100000 in
theorem metL_cell (l : Launch) {sb L : Nat} {xs : Nat → Int32} (hL : L ≤ 260) {k : Nat} (hk : k < 1000) : Met l yL_cell (wsg yL_cell cL_cell 2 (some .int)) ({ frames := 0, cells := 0, slots := 0, locals := 0 }) (PreS' sb L xs [.ref sb, .int (nI k)]) QE 0 0 NO := by
  refine Met.ofW (cc := cL_cell) (maxL := 2) (ret := (some .int)) (by decide) rfl ?_
  intro p e s m args below meth c s₁ Bo hml hv
  obtain ⟨rfl, hX, hbl⟩ := hv
  have hx := Bo.exec
  have hb := Bo.bytes
  have hr := Bo.returns
  have hts := hts_of (atoms_spec (ws := wsg yL_cell cL_cell 2 (some .int)) Bo.pre)
  have hown : s.vm.findClass RL = some m.cls := findClass_of_methodNamed Bo.named
  have hlocks := Bo.notSynchronized
  have hS : va_S NO s.heap s.heap [] := va_S.rf
  have hl := lv_entry ([.ref sb, .int (nI k)]) (n := 2) (Nat.le_of_ble_eq_true rfl)
  rw [lg_entry_eq]
  generalize (lg_sl ([.ref sb, .int (nI k)]) ++ List.replicate (2 - (lg_sl ([.ref sb, .int (nI k)])).length) Slot.unset).toArray = ls at hl ⊢
  have hl : lv_has ls 2 [(0, .ref sb), (1, .int (nI k))] := hl
  refine lv_iload_n hx hb dL_cell_0 rfl (lv_at hl 1 rfl) ?_
  refine lv_aload_n hx hb dL_cell_1 rfl (lv_at hl 0 rfl) ?_
  refine va_slen hx hb hX hbl (fun h => h) hS dL_cell_2 ?_
  refine w_top (y := nI L) rfl ?_
  refine lv_icmp_ge (tgt := 12) hx hb dL_cell_3 (by decide) (fun c_1 => ?_) (fun c_1 => ?_)
  · refine lv_ldc hx hb hown (hts _ q_318) dL_cell_12 ?_
    refine lv_iload_n hx hb dL_cell_14 rfl (lv_at hl 1 rfl) ?_
    refine lv_iconst (v := 3) hx hb dL_cell_15 (by decide) ?_
    refine lv_iadd hx hb dL_cell_16 ?_
    refine lv_imul hx hb dL_cell_17 ?_
    exact W.iret hx hb hr (fun t9 ht9 _ => ⟨_, rfl, ht9⟩) (fun q hq => absurd hq List.not_mem_nil) dL_cell_18
  · have hlt : k < L := Nat.not_le.mp fun q => c_1 (nI_le q (by omega))
    refine lv_aload_n hx hb dL_cell_6 rfl (lv_at hl 0 rfl) ?_
    refine lv_iload_n hx hb dL_cell_7 rfl (lv_at hl 1 rfl) ?_
    refine va_sld hx hb hX hbl (fun h => h) hS (vp_in_nI (n := k) (N := L) hlt (by omega)) dL_cell_8 ?_
    refine lv_goto (tgt := 18) hx hb dL_cell_9 (by decide) ?_
    exact W.iret hx hb hr (fun t9 ht9 _ => ⟨_, rfl, ht9⟩) (fun q hq => absurd hq List.not_mem_nil) dL_cell_18
section LH
variable {p : Program} {l : Launch} {e : Env} {R : Room} {s : State} {m : MethodId} {args : Array Value} {below : List Frame} {meth : Method} {c : Code} {H : Heap} {locs : List Loc} {cells slots : Nat} {Q : State → Prop}
variable {cc : ByteArray} {pc : Nat} {ls : Array Slot} {rest st0 : List Value} {X : CX} {b h0 : Nat} {g : S2} {w : Int64} {H0 : Heap}
variable {own : String} {y : MethodName} {cy : ByteArray} {maxL nL n index mc ms : Nat} {ret : Option FieldType} {hh : List (Nat × Nat × Nat × Nat)} {rm : Room} {Qc : Array Value → State → Outcome → State → Prop} {As : List Value} {fr : Addr → Prop} {a : Array Value}
theorem c_below (hF : CallFix p m c cc nL s args lw_good own) {v x : Int32} (k : Nat) (h1 : 1 ≤ k) (hk : k < 2 ^ 31) (hx : x = nI k) (hlink : Cond.methodLink own index yL_below ∈ lw_good) (hR : 1 ≤ R.frames ∧ 21 ≤ R.locals) (hdg : decode cc pc = .ok (.invokestatic index, 3)) (hsz : ls.size = nL) (hre : (rest.map fun v => v.category).sum ≤ 8) (hf : cells ≤ R.cells ∧ slots ≤ R.slots)
    (kk : ∀ j, j < k → W p l e R s m args below meth c H locs cells slots Q (F0 m (pc + 3) ls (.int (nI j) :: rest))) : W p l e R s m args below meth c H locs cells slots Q (F0 m pc ls (.int x :: .int v :: rest)) := by
  subst hx
  have hr : va_Run p l e R s m args below meth c H locs cells slots 0 0 (F0 m pc ls (.int (nI k) :: .int v :: rest)) rest (QB k [.int v, .int (nI k)].toArray) NO :=
    va_runS hF (metL_below l v h1 hk) ⟨callB_of 2 hF.2.2.2.2 (good_in q_313) rfl rfl rfl (by rw [hL_below.1]; exact hF.2.2.2.2 _ q_0) (hF.2.2.2.2 _ hlink) hL_below.2 ⟨hR.1, hR.2⟩, hF.2.2.2.2 _ q_312⟩ ⟨PreP_blind, fun U _ _ => ⟨rfl, trivial⟩⟩ rfl rfl hsz rfl (lv_room hre) hdg hf
  intro T hT Xs
  obtain ⟨v9, st₀, t, T', Lx, h0, X', hL, e1, e2, ⟨j, hj, hv, hh⟩, st⟩ := hr T hT Xs
  cases hv
  obtain ⟨t2, a1, b1⟩ := kk j hj T' (by rw [e1, hh, h0]) (Stand.forget X' (fun q h => (hL q h).elim))
  exact ⟨t2, st t2 a1, b1⟩
theorem c_cell (hF : CallFix p m c cc nL s args lw_good own) {sb L : Nat} {xs : Nat → Int32} (hX : va_X sb L xs s s.heap) (hbl : sb < s.heap.size) (hL : L ≤ 260) (hS : va_S (AB s.heap.size) s.heap H locs) {x : Int32} (k : Nat) (hk : k < 1000) (hx : x = nI k) (hlink : Cond.methodLink own index yL_cell ∈ lw_good) (hR : 1 ≤ R.frames ∧ 21 ≤ R.locals) (hdg : decode cc pc = .ok (.invokestatic index, 3)) (hsz : ls.size = nL) (hre : (rest.map fun v => v.category).sum ≤ 8) (hf : cells ≤ R.cells ∧ slots ≤ R.slots)
    (kk : ∀ r : Int32, W p l e R s m args below meth c H locs cells slots Q (F0 m (pc + 3) ls (.int r :: rest))) : W p l e R s m args below meth c H locs cells slots Q (F0 m pc ls (.int x :: .ref sb :: rest)) := by
  subst hx
  have hXH : va_X sb L xs s H := hX.kept (hS.2.1 sb hbl (fun q => absurd q (Nat.not_le.mpr hbl)))
  have hr : va_Run p l e R s m args below meth c H locs cells slots 0 0 (F0 m pc ls (.int (nI k) :: .ref sb :: rest)) rest (QE [.ref sb, .int (nI k)].toArray) NO :=
    va_runS hF (metL_cell l (sb := sb) (L := L) (xs := xs) hL hk) ⟨callB_of 2 hF.2.2.2.2 (good_in q_317) rfl rfl rfl (by rw [hL_cell.1]; exact hF.2.2.2.2 _ q_0) (hF.2.2.2.2 _ hlink) hL_cell.2 ⟨hR.1, hR.2⟩, hF.2.2.2.2 _ q_316⟩ ⟨PreS'_blind, fun U hU hWm => ⟨rfl, by rw [hU]; exact va_X.moved hWm.alike hXH, by rw [hU]; exact Nat.lt_of_lt_of_le hbl hS.1⟩⟩ rfl rfl hsz rfl (lv_room hre) hdg hf
  intro T hT Xs
  obtain ⟨v9, st₀, t, T', Lx, h0, X', hL, e1, e2, ⟨r, hv, hh⟩, st⟩ := hr T hT Xs
  cases hv
  obtain ⟨t2, a1, b1⟩ := kk r T' (by rw [e1, hh, h0]) (Stand.forget X' (fun q h => (hL q h).elim))
  exact ⟨t2, st t2 a1, b1⟩
/-- what a call of the class leaves of the cells beside it -/
def Keep (b : Nat) (H H1 : Heap) : Prop := H.size ≤ H1.size ∧ ∀ q : Nat, q < H.size → ¬ AA b q → H1[q]? = H[q]?
theorem kl_i {post : Int32 → S2 → Prop} (hb0 : h0 ≤ b) (hr : va_Run p l e R s m args below meth c H locs cells slots mc ms (F0 m pc ls st0) rest (Qi X b w post a) (AA b)) (hS : va_S (AB h0) H0 H locs)
    (kk : ∀ (r : Int32) (g1 : S2) (H1 : Heap) (locs1 : List Loc), post r g1 → wd X b g1 w H1 → va_S (AB h0) H0 H1 locs1 → Keep b H H1 → W p l e R s m args below meth c H1 locs1 (cells + mc) (slots + ms) Q (F0 m (pc + 3) ls (.int r :: rest))) : W p l e R s m args below meth c H locs cells slots Q (F0 m pc ls st0) :=
  va_calli hr hS (fun _ _ h => Nat.le_trans hb0 h.1) (fun _ h => Nat.le_trans hb0 h.1) (fun r u _ H1 locs1 ht _ hp hb hz hk hS1 => kk r u H1 locs1 hp (ht ▸ hb) hS1 ⟨hz, hk⟩)
end LH
def tr01 (g : S2) (P : Nat) : Int32 := if g P 7 = 0 then 0 else 1
/-- what the law's change does -/
def ChP (g g1 : S2) (p k : Nat) (r : Int32) : Prop := (g (1 + 20 + p) 0 = 2 ∧ ¬ g (1 + 20 + p) 1 = nI k ∧ g1 = f_again g (1 + 20 + p) (nI k) (g 1 5) ∧ r = tr01 g1 (1 + 20 + p)) ∨ (¬ (g (1 + 20 + p) 0 = 2 ∧ ¬ g (1 + 20 + p) 1 = nI k) ∧ g1 = g ∧ r = -1)
set_option maxHeartbeats 1000000 in
set_option maxRecDepth 100000 in
theorem metL_change (l : Launch) (hst : l.stackTraces = false) (X : CX) (b : Nat) (w : Int64) (g : S2) {nb np : Nat} (h : OkL 1 nb np g) {q k : Nat} (hq : q < np) (hk : k < 10) : Met l yL_change (wsh yL_change cL_change 4 (some .int) [(0, 14, 15, 46)]) ({ frames := 7, cells := 1, slots := 6, locals := 119 }) (PreX X b g w [.ref (b + 0), .int (nI q), .int (nI k)]) (Qi X b w (fun r g1 => ChP g g1 q k r)) 1 6 (AA b) := by
  refine m_ofWH (cc := cL_change) (maxL := 4) (ret := (some .int)) (hh := [(0, 14, 15, 46)]) (by decide) rfl ?_
  intro p e s m args below meth c s₁ Bo hml hv
  obtain ⟨rfl, hW, hK, hT⟩ := hv
  have hx := Bo.exec
  have hb := Bo.bytes
  have hr := Bo.returns
  have hts := hts_h (atoms_spec (ws := wsh yL_change cL_change 4 (some .int) [(0, 14, 15, 46)]) Bo.pre)
  have htab := vx_table (x := yL_change) Bo (hts _ q_479)
  have hown : s.vm.findClass RL = some m.cls := findClass_of_methodNamed Bo.named
  have hlocks := Bo.notSynchronized
  have hS : va_S (AA b) s.heap s.heap [] := va_S.rf
  have h50 := h.2.1.2
  have hl := lv_entry ([.ref (b + 0), .int (nI q), .int (nI k)]) (n := 4) (Nat.le_of_ble_eq_true rfl)
  rw [lg_entry_eq]
  generalize (lg_sl ([.ref (b + 0), .int (nI q), .int (nI k)]) ++ List.replicate (4 - (lg_sl ([.ref (b + 0), .int (nI q), .int (nI k)])).length) Slot.unset).toArray = ls at hl ⊢
  have hl : lv_has ls 4 [(0, .ref (b + 0)), (1, .int (nI q)), (2, .int (nI k))] := hl
  have hM := metX4_change l hst X b w g h (nI q) (nI k)
  rw [clN (show q < 50 by omega) (by omega)] at hM
  have her : er_change (g 1 4) (g (1 + 20 + q) 0) (g (1 + 20 + q) 1) (nI q) (nI k) = if ¬ g (1 + 20 + q) 0 = 2 ∨ g (1 + 20 + q) 1 = nI k then 2 else 0 := by
    unfold er_change
    rw [if_neg (fun z => z.elim (f_inC h.2.1.1 hq (by omega)) (f_inN (M := 9) (Nat.le_of_lt_succ hk) (by decide)))]
  rw [her] at hM
  refine lv_aload_n hx hb dL_change_0 rfl (lv_at hl 0 rfl) ?_
  refine lv_iload_n hx hb dL_change_1 rfl (lv_at hl 1 rfl) ?_
  refine lv_iload_n hx hb dL_change_2 rfl (lv_at hl 2 rfl) ?_
  refine vx_calli (x_V ⟨hx, hb, hml, hown, hts⟩ hM hK hT hS hW (by decide) Ent_0 rfl q_481 q_482 q_483 q_1 q_484 hX4_change ⟨Nat.le_of_ble_eq_true rfl, Nat.le_of_ble_eq_true rfl, rfl, rfl⟩ rfl dL_change_3 rfl hl.1 (Nat.le_of_ble_eq_true rfl) ⟨Nat.le_of_ble_eq_true rfl, Nat.le_of_ble_eq_true rfl⟩) hS (fun _ _ h => h) (fun _ h => h) (fun _ _ h => h) (fun E ce q9 u t H locs ht hvm hu hB hz hk9 hS hce hcv hcl => ?_) (fun r g1 t H locs ht hvm hp hW hz hk9 hS => ?_)
  · obtain ⟨hE, hW⟩ := hB
    rw [ht] at hW
    have hno : ¬ (g (1 + 20 + q) 0 = 2 ∧ ¬ g (1 + 20 + q) 1 = nI k) ∧ E = xIS := by
      rcases hE with ⟨he, rfl⟩ | ⟨he, rfl⟩
      · split at he <;> simp at he
      · refine ⟨fun z => ?_, rfl⟩
        rw [if_neg (fun y => y.elim (fun v => v z.1) z.2)] at he
        exact absurd he (by decide)
    obtain ⟨hno, rfl⟩ := hno
    refine vx_catch (pc := 3) (E := xIS) (name := xIS) hown [] ⟨0, 14, 15, 46⟩ [] htab (fun z hz => absurd hz List.not_mem_nil) (by decide) (by decide) (hts _ q_480) (va_Nw.use rfl (hK.nw q_125 rfl)) hce hcv hcl ?_
    refine lv_astore_n (lv' := [(3, .ref q9), (0, .ref (b + 0)), (1, .int (nI q)), (2, .int (nI k))]) hx hb dL_change_15 rfl hl (by decide) rfl (fun ls hl => ?_)
    refine lv_iconst (v := (-1)) hx hb dL_change_16 (by decide) ?_
    exact W.iret (v := (-1)) hx hb hr (fun t9 ht9 _ => ⟨⟨-1, g, rfl, Or.inr ⟨hno, rfl, rfl⟩, by show wd X b g w t9.heap; rw [ht9]; exact hW⟩, hS.F ht9⟩) hS.2.2 dL_change_17
  · rw [ht] at hW
    obtain ⟨he, hp1, hp2⟩ := hp
    have hyes : g (1 + 20 + q) 0 = 2 ∧ ¬ g (1 + 20 + q) 1 = nI k := by
      by_cases z : ¬ g (1 + 20 + q) 0 = 2 ∨ g (1 + 20 + q) 1 = nI k
      · rw [if_pos z] at he; exact absurd he (by decide)
      · exact ⟨Classical.byContradiction (fun y => z (Or.inl y)), fun y => z (Or.inr y)⟩
    have hr7 : r = g1 (1 + 20 + q) 7 := by rw [hp1, hp2]
    refine lv_if_eq (tgt := 13) hx hb dL_change_6 (by decide) (fun h0 => ?_) (fun h0 => ?_)
    · refine lv_iconst (v := 0) hx hb dL_change_13 (by decide) ?_
      exact W.iret (v := 0) hx hb hr (fun t9 ht9 _ => ⟨⟨0, g1, rfl, Or.inl ⟨hyes.1, hyes.2, hp2, (if_pos (hr7.symm.trans h0)).symm⟩, by show wd X b g1 w t9.heap; rw [ht9]; exact hW⟩, hS.F ht9⟩) hS.2.2 dL_change_14
    · refine lv_iconst (v := 1) hx hb dL_change_9 (by decide) ?_
      refine lv_goto (tgt := 14) hx hb dL_change_10 (by decide) ?_
      exact W.iret (v := 1) hx hb hr (fun t9 ht9 _ => ⟨⟨1, g1, rfl, Or.inl ⟨hyes.1, hyes.2, hp2, (if_neg (fun z => h0 (hr7.trans z))).symm⟩, by show wd X b g1 w t9.heap; rw [ht9]; exact hW⟩, hS.F ht9⟩) hS.2.2 dL_change_14
end
