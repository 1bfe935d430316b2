/-! methods that throw, and the face's small tests -/
def strs : List (Nat × String) := [(25, "there is no such stop"), (36, "minutes are 1 to 9, a stage is 0 to 9"), (52, "a hold is 0 to 15"), (57, "seats are 1 to 20"), (64, "there are 6 buses"), (71, "both stops are the same"), (76, "there are 50 passengers"), (84, "there is no such passenger or stop"), (98, "this one has not arrived, or is there already"), (114, "there is no such bus or answer"), (126, "there is no such passenger or answer"), (129, "there is no such stop or answer"), (134, "there is no such answer"), (139, "minutes are 1 to 120"), (148, "there is no such passenger")]
abbrev xIO : String := "java/lang/IndexOutOfBoundsException"
abbrev xIA : String := "java/lang/IllegalArgumentException"
abbrev xIS : String := "java/lang/IllegalStateException"
abbrev xUp : List String := ["java/lang/RuntimeException", "java/lang/Exception"]
def ncs : List (String × String) := []
/-- what a throw and its catching need of the tables, and of what stands apart from the world -/
def KT (b : Nat) (U : State) (H : Heap) : Prop :=
  vx_Zq Bundle.tN "UNASSIGNED_STACK" Bundle.steD (AA b) U H ∧ vx_Zq Bundle.tN "SUPPRESSED_SENTINEL" Bundle.listD (AA b) U H ∧ (∀ q ∈ strs, ∃ sa : Nat, vk_R RX4 q.1 q.2 sa U) ∧ ∀ q ∈ ncs, va_Nc q.1 q.2 U
theorem KT.go {b : Nat} {s U : State} {H : Heap} {locs : List Loc} (k : KT b s s.heap) (hS : va_S (AA b) s.heap H locs) (hW : s.WarmedH U.vm) (hU : U.heap = H) : KT b U U.heap := by
  rw [hU]
  exact ⟨vx_Zq.moved hW.alike (k.1.kept hS.2.1), vx_Zq.moved hW.alike (k.2.1.kept hS.2.1), fun q hq => ⟨_, vk_R.warm hW (k.2.2.1 q hq).choose_spec⟩, fun q hq => va_Nc.moved hW.alike (k.2.2.2 q hq)⟩
theorem KT.blind {b : Nat} {U : State} {g : JFrame} {mk : MethodId} {a : Array Value} (k : KT b U U.heap) : KT b (U.calling g mk a) (U.calling g mk a).heap :=
  ⟨vx_Zq.moved (u := U) (U := U.calling g mk a) (Vm.Alike.refl U.vm) k.1, vx_Zq.moved (u := U) (U := U.calling g mk a) (Vm.Alike.refl U.vm) k.2.1, fun q hq => ⟨_, vk_R.same (u := U) (U := U.calling g mk a) rfl (k.2.2.1 q hq).choose_spec⟩, fun q hq => va_Nc.moved (u := U) (U := U.calling g mk a) (Vm.Alike.refl U.vm) (k.2.2.2 q hq)⟩
def PreX (X : CX) (b : Nat) (g : S2) (w : Int64) (av : List Value) : Array Value → State → Prop := va_Pc av (fun U => wd X b g w U.heap ∧ KK X U ∧ KT b U U.heap)
theorem PreX_blind {X : CX} {b : Nat} {g : S2} {w : Int64} {av : List Value} : FrameBlind (PreX X b g w av) := fun _ _ _ _ q => ⟨q.1, q.2.1, q.2.2.1.blind, q.2.2.2.blind⟩
abbrev XQ (X : CX) (b : Nat) (g : S2) (w : Int64) (XE : String → Prop) := vx_X (fun _ : Unit => True) (fun E _ t => XE E ∧ wd X b g w t.heap) (AA b)
theorem wd_grow {X : CX} {b : Nat} {g : S2} {w : Int64} {H H1 : Heap} (h : wd X b g w H) (hz : H.size ≤ H1.size) (hk : ∀ q : Nat, q < H.size → H1[q]? = H[q]?) : wd X b g w H1 := by
  have h1 := h.1
  exact ⟨by omega, fun i hi => (h.2 i hi).kept (hk (b + i) (by omega))⟩
theorem at_ok (own : String) (ic : Nat) (cls : String) (h : ∀ w ∈ vx_atS own ic cls xUp, w ∈ lw_good ∨ (w ∈ lw_tbl ∧ lw_ext w = true)) {args : Array Value} {s : State} {X : CX} (hts : ∀ w ∈ lw_good, w.before args s = true) (hK : KK X s) : ∀ w ∈ vx_atS own ic cls xUp, w.before args s = true := by
  intro w hw
  rcases h w hw with q | q
  · exact hts w q
  · exact va_Nw.use (ext_tables q.2) (hK.nw q.1 q.2)
set_option maxRecDepth 100000 in
theorem at_IO : ∀ w ∈ vx_atS RX4 27 xIO xUp, w ∈ lw_good ∨ (w ∈ lw_tbl ∧ lw_ext w = true) := by decide +kernel
set_option maxRecDepth 100000 in
theorem at_IA : ∀ w ∈ vx_atS RX4 38 xIA xUp, w ∈ lw_good ∨ (w ∈ lw_tbl ∧ lw_ext w = true) := by decide +kernel
set_option maxRecDepth 100000 in
theorem at_IS : ∀ w ∈ vx_atS RX4 66 xIS xUp, w ∈ lw_good ∨ (w ∈ lw_tbl ∧ lw_ext w = true) := by decide +kernel
set_option maxRecDepth 100000 in
theorem gd_IO : ∀ w ∈ Cond.classLink RX4 23 xIO :: Cond.initialized xIO :: vx_atS RX4 27 xIO xUp, vx_ot w = true := by decide +kernel
set_option maxRecDepth 100000 in
theorem gd_IA : ∀ w ∈ Cond.classLink RX4 34 xIA :: Cond.initialized xIA :: vx_atS RX4 38 xIA xUp, vx_ot w = true := by decide +kernel
set_option maxRecDepth 100000 in
theorem gd_IS : ∀ w ∈ Cond.classLink RX4 62 xIS :: Cond.initialized xIS :: vx_atS RX4 66 xIS xUp, vx_ot w = true := by decide +kernel
section TX
variable {p : Program} {l : Launch} {e : Env} {R : Room} {s : State} {m : MethodId} {args : Array Value} {below : List Frame} {meth : Method} {c : Code} {H : Heap} {locs : List Loc} {cells slots : Nat} {Q : State → Prop}
variable {cc : ByteArray} {pc : Nat} {ls : Array Slot} {rest st0 : List Value} {X : CX} {b : Nat} {g : S2} {w : Int64} {H0 : Heap}
/-- 'throw new E("text")' in the face, nothing written yet -/
theorem w_throw {Qc : Array Value → State → Outcome → State → Prop} {XE : String → Prop} {cls text : String} {ik is ic : Nat} (hx : p.tables.exec = Jvm.exec) (hb : c.code = cc) (hst : l.stackTraces = false) (hown : s.vm.findClass RX4 = some m.cls) (hcls : Bundle.fit cls = true) (hnm : ∀ n ∈ xUp, Bundle.fit n = true)
    (hts : ∀ w ∈ lw_good, w.before args s = true) (hK : KK X s) (hT : KT b s s.heap) (hk : Cond.classLink RX4 ik cls ∈ lw_good) (hini : Cond.initialized cls ∈ lw_good) (hat : ∀ w ∈ vx_atS RX4 ic cls xUp, w ∈ lw_good ∨ (w ∈ lw_tbl ∧ lw_ext w = true)) (hgd : ∀ w ∈ Cond.classLink RX4 ik cls :: Cond.initialized cls :: vx_atS RX4 ic cls xUp, vx_ot w = true) (hstr : (is, text) ∈ strs)
    (hW : wd X b g w s.heap) (hsize : ls.size = c.maxLocals) (hE : XE cls)
    (d0 : decode cc pc = .ok (.new ik, 3)) (d3 : decode cc (pc + 3) = .ok (.dup, 1)) (d4 : decode cc (pc + 4) = .ok (.ldc is, 2)) (d6 : decode cc (pc + 6) = .ok (.invokespecial ic, 3)) (d9 : decode cc (pc + 9) = .ok (.athrow, 1))
    (hout : ∀ x ∈ c.exceptionTable.toList, False) (hRf : 5 < R.frames) (hRl : (rest.map fun v => v.category).sum + 82 ≤ R.locals) (hRc : 1 ≤ R.cells) (hRs : 6 ≤ R.slots) (hlocks : meth.locks = false) :
    W p l e R s m args below meth c s.heap [] 0 0 (vx_MQ below Qc (XQ X b g w XE) args s 1 6 (AA b)) (F0 m pc ls rest) := by
  obtain ⟨sa, hsa⟩ := hT.2.2.1 _ hstr
  exact vx_throwS hx hb hst hown hcls hnm (hts _ hk) (hts _ hini) hsa (at_ok RX4 ic cls hat hts hK) hgd hT.1 hT.2.1 va_S.rf hsize d0 d3 d4 d6 d9 (fun x hx => (hout x hx).elim) hRf hRl (by omega) (by omega) hlocks
    (fun t _ hz hk => ⟨(), trivial, ⟨hE, wd_grow hW hz hk⟩, hz, fun q h1 _ => hk q h1⟩) (fun z hz => by cases hz) (by omega) (by omega)
variable {own C : String} {y : MethodName} {cy : ByteArray} {maxL nL n index mc ms : Nat} {ret : Option FieldType} {rm : Room} {Qc : Array Value → State → Outcome → State → Prop} {XC : String → State → State → Prop} {As : List Value} {a : Array Value} {fr : Addr → Prop}
/-- a call of a method of the face that may throw -/
theorem x_V (hF : CallFix p m c cc nL s args lw_good own) {i : Nat} (hM : vx_Met l y (wsg y cy maxL ret) rm (PreX X b g w (.ref (b + i) :: As)) Qc XC mc ms fr) (hK : KK X s) (hT : KT b s s.heap) (hS : va_S (AA b) s.heap H locs) (hW : wd X b g w H) (hi : i < 141) {fs : List Value} {T : u_T} {N ci : Nat} (he : Ent X b g w i = .inr (ci, fs)) (hc : vwCl[ci]? = some (C, T, N))
    (h1 : Cond.methodLink own index y ∈ lw_good) (h2 : Cond.instanceMethod y ∈ lw_good) (h3 : Cond.selects C y y ∈ lw_good) (h4 : Cond.initialized C ∈ lw_good) (h5 : Cond.code y cy maxL ret ∈ lw_good)
    (hd : y.cls = C ∧ y.cls ≠ "java/lang/invoke/MethodHandle" ∧ y.cls ≠ "java/lang/invoke/VarHandle" ∧ (parseMethodDescriptor y.desc).map (fun d => d.parameters.length) = some n) (hR : rm.frames + 1 ≤ R.frames ∧ 8 + (maxL + 11) + rm.locals ≤ R.locals ∧ rm.cells = mc ∧ rm.slots = ms)
    (hst : st0 = As.reverse ++ .ref (b + i) :: rest) (hdg : decode cc pc = .ok (.invokevirtual index, 3)) (hn : As.length = n) (hsz : ls.size = nL) (hre : (rest.map fun v => v.category).sum ≤ 8) (hf : cells + mc ≤ R.cells ∧ slots + ms ≤ R.slots) :
    vx_Run p l e R s m args below meth c H locs cells slots mc ms (F0 m pc ls st0) rest (Qc (Value.ref (b + i) :: As).toArray) XC fr :=
  vx_runV hF hM ⟨callB_of n hF.2.2.2.2 (good_in h5) rfl hR.2.2.1 hR.2.2.2 (by rw [hd.1]; exact hF.2.2.2.2 _ h4) (hF.2.2.2.2 _ h1) hd.2 ⟨hR.1, hR.2.1⟩, hF.2.2.2.2 _ h2, by have h := hF.2.2.2.2 _ h3; exact h⟩ ⟨PreX_blind, va_recv (q0 := 0) hK.1 (wd_P hW hi he) hc rfl, fun U hU hWm => ⟨rfl, by rw [hU]; exact hW, hK.warm hWm, hT.go hS hWm hU⟩⟩ rfl hn hsz hst (lv_room hre) hdg hf
end TX
theorem upFit : ∀ n ∈ xUp, Bundle.fit n = true := by decide
/-- v within lo .. hi -/
def f_in (v lo hi : Int32) : Int32 := if ¬ v < lo ∧ ¬ hi < v then 1 else 0
theorem f_in0 {v lo hi : Int32} : f_in v lo hi = 0 ↔ ¬ (¬ v < lo ∧ ¬ hi < v) := by unfold f_in; exact ite0
theorem f_in1 {v lo hi : Int32} : ¬ f_in v lo hi = 0 ↔ (¬ v < lo ∧ ¬ hi < v) := by unfold f_in; exact ite1
theorem f_in01 {v lo hi : Int32} : f_in v lo hi = 0 ∨ f_in v lo hi = 1 := by unfold f_in; exact ite01
theorem in_nI {v M : Int32} {k : Nat} (h : ¬ f_in v 0 M = 0) (hM : M = nI k) (hk : k < 2000) : cl v ≤ k ∧ v = nI (cl v) := by
  obtain ⟨h1, h2⟩ := f_in1.mp h
  subst hM
  obtain ⟨j, hj, rfl⟩ := nI_of h1
  have h3 : j ≤ k := by
    have := Int32.not_lt.mp h2
    exact (nI_leI hj (by omega)).mp this
  rw [cl_nI (n := 2048) rfl (by omega) (by omega)]
  exact ⟨h3, rfl⟩
theorem in_lt {v : Int32} {k : Nat} (h : ¬ f_in v 0 (nI k - 1) = 0) (hk : k < 2000) : cl v < k ∧ v = nI (cl v) := by
  cases k with
  | zero =>
    obtain ⟨h1, h2⟩ := f_in1.mp h
    obtain ⟨j, hj, rfl⟩ := nI_of h1
    exfalso
    have h3 := Int32.not_lt.mp h2
    have h4 : nI j ≤ (-1 : Int32) := h3
    have h5 : (nI j).toInt ≤ (-1 : Int32).toInt := Int32.le_iff_toInt_le.mp h4
    rw [nI_toInt hj] at h5
    simp at h5
    omega
  | succ k =>
    rw [nI_pred] at h
    obtain ⟨h1, h2⟩ := in_nI h rfl (by omega)
    exact ⟨by omega, h2⟩
theorem in_1 {v M : Int32} {k : Nat} (h : ¬ f_in v 1 M = 0) (hM : M = nI k) (hk : k < 2000) : 1 ≤ cl v ∧ cl v ≤ k ∧ v = nI (cl v) := by
  obtain ⟨h1, h2⟩ := f_in1.mp h
  have h0 : ¬ v < 0 := fun q => h1 (Int32.lt_of_lt_of_le q (by decide))
  obtain ⟨h3, h4⟩ := in_nI (v := v) (M := M) (f_in1.mpr ⟨h0, h2⟩) hM hk
  refine ⟨?_, h3, h4⟩
  rcases Nat.eq_zero_or_pos (cl v) with q | q
  · rw [h4, q] at h1
    exact absurd (show nI 0 < 1 by decide) h1
  · exact q
