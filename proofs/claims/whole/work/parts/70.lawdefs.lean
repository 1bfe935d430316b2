/-! the law's helpers -/
theorem m_ofWH {l : Launch} {y : MethodName} {ws ws' : List Cond} {rm : Room} {Pc : Array Value → State → Prop} {Qc : Array Value → State → Outcome → State → Prop} {mc ms : Nat} {free : Addr → Prop} {cc : ByteArray} {maxL : Nat} {ret : Option FieldType} {hh : List (Nat × Nat × Nat × Nat)}
    (hy : plainName y.cls = true) (hw : ws = Cond.codeWith y cc maxL ret hh :: ws')
    (body : ∀ p e s m args below meth c s₁, BodyLoose p l y (headSpec ws rm) cc maxL ret e s m args below meth c s₁ → c.maxLocals = maxL → Pc args s →
      W p l e (headSpec ws rm).room s m args below meth c s.heap [] 0 0 (MQ below Qc args s mc ms free) (entryFrame m args maxL)) : Met l y ws rm Pc Qc mc ms free := by
  refine MetFree.of_bodyS (code := cc) (maxLocals := maxL) (ret := ret) hy ?_ ?_
  · intro args s m h hn
    obtain ⟨m9, meth, c, hn9, h1, h2, h3, h4, -, h5, h6, -⟩ := Cond.codeWith_spec (atoms_spec (ws := ws) h _ (by rw [hw]; exact List.mem_cons_self))
    cases hn.symm.trans hn9
    exact ⟨meth, c, h1, h2, h3, h4, h5, h6⟩
  · intro p e s m args below meth c s₁ B hml hP _
    have hh0 : s₁.heap = s.heap := by rw [B.state]; rfl
    obtain ⟨t, a1, o, b1, b2, b3⟩ := body p e s m args below meth c s₁ B hml hP s₁ hh0 (Stand.of_body B)
    exact ⟨t, o, a1, b1, b2, b3⟩
abbrev wsh (y : MethodName) (cc : ByteArray) (n : Nat) (ret : Option FieldType) (hh : List (Nat × Nat × Nat × Nat)) : List Cond := Cond.codeWith y cc n ret hh :: lw_good
theorem hts_h {y : MethodName} {cc : ByteArray} {n : Nat} {ret : Option FieldType} {hh : List (Nat × Nat × Nat × Nat)} {args : Array Value} {s : State} (h : ∀ w ∈ wsh y cc n ret hh, w.before args s = true) : ∀ w ∈ lw_good, w.before args s = true := fun w hw => h w (List.mem_cons_of_mem _ hw)
theorem good_h {y : MethodName} {cc : ByteArray} {n : Nat} {ret : Option FieldType} {hh : List (Nat × Nat × Nat × Nat)} (h : Cond.codeWith y cc n ret hh ∈ lw_good) : GoodIn lw_good (wsh y cc n ret hh) := by
  intro w hw
  rcases List.mem_cons.mp hw with rfl | hw
  · exact ⟨h, good_of_word (lw_good_word h)⟩
  · exact ⟨hw, good_of_word (lw_good_word hw)⟩
def lo0 (r : Int32) : Int64 := r.toInt64
def lo1 (r : Int32) : Int64 := if r = 0 then 0 else 1
abbrev HQ (X : CX) (b : Nat) (g : S2) (er : Nat) (ok : Int32 → S2 → Prop) (lo : Int32 → Int64) := va_Qi (fun (k : Int32) (u : S2 × Int64) => ∃ r, CP g er ok r u.1 ∧ k = nI er ∧ (er = 0 → u.2 = lo r) ∧ er < 4) (fun u t => wd X b u.1 u.2 t.heap) (AA b)
theorem hp_ok {g g1 : S2} {er : Nat} {ok : Int32 → S2 → Prop} {lo : Int32 → Int64} {r : Int32} {w1 : Int64} (h : er = 0 ∧ ok r g1) (hw : w1 = lo r) : ∃ r, CP g er ok r (g1, w1).1 ∧ (0 : Int32) = nI er ∧ (er = 0 → (g1, w1).2 = lo r) ∧ er < 4 :=
  ⟨r, Or.inl h, by rw [h.1]; rfl, fun _ => hw, by rw [h.1]; decide⟩
theorem hp_er {g : S2} {er : Nat} {ok : Int32 → S2 → Prop} {lo : Int32 → Int64} {w : Int64} {k : Nat} {v : Int32} (h : er = k) (hk : ¬ k = 0 ∧ k < 4) (hv : v = nI k) : ∃ r, CP g er ok r (g, w).1 ∧ v = nI er ∧ (er = 0 → (g, w).2 = lo r) ∧ er < 4 :=
  ⟨0, Or.inr ⟨by rw [h]; exact hk.1, rfl⟩, by rw [h]; exact hv, fun q => absurd (h.symm.trans q) hk.1, by rw [h]; exact hk.2⟩
section LH
variable {p : Program} {l : Launch} {e : Env} {R : Room} {s : State} {m : MethodId} {args : Array Value} {below : List Frame} {meth : Method} {c : Code} {H : Heap} {locs : List Loc} {cells slots : Nat} {Q : State → Prop}
variable {cc : ByteArray} {pc : Nat} {ls : Array Slot} {rest st0 : List Value} {X : CX} {b : Nat} {g : S2} {w : Int64} {H0 : Heap}
theorem w_last (hexec : p.tables.exec = Jvm.exec) (hb : c.code = cc) (hK : KK X s) (hW : wd X b g w H) (hS0 : va_S (AA b) H0 H locs) {x : Int64} (hdg : decode cc pc = .ok (.lastore, 1))
    (kk : ∀ (H1 : Heap) (locs1 : List Loc), wd X b g x H1 → va_S (AA b) H0 H1 locs1 → W p l e R s m args below meth c H1 locs1 cells slots Q (F0 m (pc + 1) ls rest)) : W p l e R s m args below meth c H locs cells slots Q (F0 m pc ls (.long x :: .int 0 :: .ref (b + 173) :: rest)) := by
  have h1 := hW.2 173 (by decide)
  rw [Ent_O] at h1
  refine W.last hexec hb h1 ((hK.1.2 1 _ rfl).1 1 (fun _ => .long w)) (fun q => by cases q) (by show ¬ ((0 : Int32) < 0 ∨ (arrV _ _ _).slots.size ≤ _); rw [arrV_size]; show ¬ ((0 : Int32) < 0 ∨ 1 ≤ (0 : Int32).toNatClampNeg); decide) rfl rfl hdg fun H1 e1 z oq => ?_
  refine kk H1 _ ⟨by rw [z]; exact hW.1, fun i hi => ?_⟩ (hS0.put z oq (Nat.le_add_right b 173))
  by_cases h : i = 173
  · subst h
    rw [Ent_O]
    show H1[b + 173]? = some (vp_cell _ _)
    rw [e1, vp_cell_l, vp_cell_l, arrV_store]
    refine congrArg some (ofFn_congr (fun j hj => ?_) _)
    have : j = 0 := by omega
    subst this
    rfl
  · have h2 := hW.2 i hi
    have he : Ent X b g x i = Ent X b g w i := by
      unfold Ent
      rw [if_neg h, if_neg h]
    rw [he]
    exact h2.kept (oq _ (by show b + i ≠ b + 173; omega))
theorem w_lald (hexec : p.tables.exec = Jvm.exec) (hb : c.code = cc) (hK : KK X s) (hW : wd X b g w H) (hdg : decode cc pc = .ok (.laload, 1))
    (kk : W p l e R s m args below meth c H locs cells slots Q (F0 m (pc + 1) ls (.long w :: rest))) : W p l e R s m args below meth c H locs cells slots Q (F0 m pc ls (.int 0 :: .ref (b + 173) :: rest)) :=
  va_lald hexec hb hK.1 (wd_P hW (by decide) Ent_O) 0 1 rfl rfl (vp_in_nI (n := 0) (N := 1) (by decide) (by decide)) hdg kk
variable {own : String} {y : MethodName} {cy : ByteArray} {maxL nL n index mc ms : Nat} {ret : Option FieldType} {hh : List (Nat × Nat × Nat × Nat)} {rm : Room} {Qc : Array Value → State → Outcome → State → Prop} {As : List Value} {fr : Addr → Prop}
/-- the law calls a helper -/
theorem c_SW (hF : CallFix p m c cc nL s args lw_good own) (hM : Met l y (wsh y cy maxL ret hh) rm (PreX X b g w As) Qc mc ms fr) (hK : KK X s) (hT : KT b s s.heap) (hS : va_S (AA b) s.heap H locs) (hW : wd X b g w H)
    (h1 : Cond.methodLink own index y ∈ lw_good) (h2 : Cond.static y ∈ lw_good) (h4 : Cond.initialized y.cls ∈ lw_good) (h5 : Cond.codeWith y cy maxL ret hh ∈ lw_good)
    (hd : y.cls ≠ "java/lang/invoke/MethodHandle" ∧ y.cls ≠ "java/lang/invoke/VarHandle" ∧ (parseMethodDescriptor y.desc).map (fun d => d.parameters.length) = some n) (hR : rm.frames + 1 ≤ R.frames ∧ 8 + (maxL + 11) + rm.locals ≤ R.locals ∧ rm.cells = mc ∧ rm.slots = ms)
    (hst : st0 = As.reverse ++ rest) (hdg : decode cc pc = .ok (.invokestatic index, 3)) (hn : As.length = n) (hsz : ls.size = nL) (hre : (rest.map fun v => v.category).sum ≤ 8) (hf : cells + mc ≤ R.cells ∧ slots + ms ≤ R.slots) :
    va_Run p l e R s m args below meth c H locs cells slots mc ms (F0 m pc ls st0) rest (Qc As.toArray) fr := by
  have hG := good_h h5
  refine vx_runSW (hh := hh) hF hM ⟨⟨hR.2.2.1, hR.2.2.2, hR.1, hR.2.1, pay_in hF.2.2.2.2 hG, List.mem_cons_self⟩, hF.2.2.2.2 _ h5, hF.2.2.2.2 _ h4, ⟨hd.1, hd.2.1⟩, fun sig h => ?_, hF.2.2.2.2 _ h1, hF.2.2.2.2 _ h2⟩ ⟨PreX_blind, fun U hU hWm => ⟨rfl, by rw [hU]; exact hW, hK.warm hWm, hT.go hS hWm hU⟩⟩ rfl hn hsz hst (lv_room hre) hdg hf
  have h2 := hd.2.2
  rw [h] at h2
  exact (Option.some.inj h2).symm
end LH
