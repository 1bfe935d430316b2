/-! the law's body: what stays the same, and its calls -/
theorem KT.dr {b : Nat} {s : State} {H : Heap} (h : KT b s H) (d : Drawn) : KT b (s.setDrawn d) H :=
  ⟨vx_Zq.moved (u := s) (U := s.setDrawn d) (Vm.Alike.refl s.vm) h.1, vx_Zq.moved (u := s) (U := s.setDrawn d) (Vm.Alike.refl s.vm) h.2.1, fun q hq => ⟨_, vk_R.same (u := s) (U := s.setDrawn d) rfl (h.2.2.1 q hq).choose_spec⟩, fun q hq => va_Nc.moved (u := s) (U := s.setDrawn d) (Vm.Alike.refl s.vm) (h.2.2.2 q hq)⟩
theorem lg_self {x : Int64} : lg_cmp x x = 0 := by
  unfold lg_cmp
  rw [if_neg (Int64.lt_irrefl), if_pos rfl]
/-- what is true through the whole body: b the world's beginning, sb the script -/
def LC (p : Program) (l : Launch) (s : State) (m : MethodId) (meth : Method) (c : Code) (X : CX) (b sb L : Nat) (xs : Nat → Int32) : Prop :=
  (p.tables.exec = Jvm.exec) ∧ (c.code = code) ∧ (meth.sig.returnType = some .boolean) ∧ (c.maxLocals = 9) ∧ (s.vm.findClass RL = some m.cls) ∧ (∀ w ∈ lw_good, w.before #[Value.ref sb] s = true) ∧ (KK X s) ∧ (KT b s s.heap) ∧ (va_X sb L xs s s.heap) ∧ (sb < s.heap.size) ∧ (¬ AA b sb) ∧ (l.stackTraces = false) ∧ (L ≤ 2048)
theorem LC.hx {p : Program} {l : Launch} {s : State} {m : MethodId} {meth : Method} {c : Code} {X : CX} {b sb L : Nat} {xs : Nat → Int32} (h : LC p l s m meth c X b sb L xs) : p.tables.exec = Jvm.exec := h.1
theorem LC.hb {p : Program} {l : Launch} {s : State} {m : MethodId} {meth : Method} {c : Code} {X : CX} {b sb L : Nat} {xs : Nat → Int32} (h : LC p l s m meth c X b sb L xs) : c.code = code := h.2.1
theorem LC.hr {p : Program} {l : Launch} {s : State} {m : MethodId} {meth : Method} {c : Code} {X : CX} {b sb L : Nat} {xs : Nat → Int32} (h : LC p l s m meth c X b sb L xs) : meth.sig.returnType = some .boolean := h.2.2.1
theorem LC.hml {p : Program} {l : Launch} {s : State} {m : MethodId} {meth : Method} {c : Code} {X : CX} {b sb L : Nat} {xs : Nat → Int32} (h : LC p l s m meth c X b sb L xs) : c.maxLocals = 9 := h.2.2.2.1
theorem LC.hown {p : Program} {l : Launch} {s : State} {m : MethodId} {meth : Method} {c : Code} {X : CX} {b sb L : Nat} {xs : Nat → Int32} (h : LC p l s m meth c X b sb L xs) : s.vm.findClass RL = some m.cls := h.2.2.2.2.1
theorem LC.hts {p : Program} {l : Launch} {s : State} {m : MethodId} {meth : Method} {c : Code} {X : CX} {b sb L : Nat} {xs : Nat → Int32} (h : LC p l s m meth c X b sb L xs) : ∀ w ∈ lw_good, w.before #[Value.ref sb] s = true := h.2.2.2.2.2.1
theorem LC.hK {p : Program} {l : Launch} {s : State} {m : MethodId} {meth : Method} {c : Code} {X : CX} {b sb L : Nat} {xs : Nat → Int32} (h : LC p l s m meth c X b sb L xs) : KK X s := h.2.2.2.2.2.2.1
theorem LC.hT {p : Program} {l : Launch} {s : State} {m : MethodId} {meth : Method} {c : Code} {X : CX} {b sb L : Nat} {xs : Nat → Int32} (h : LC p l s m meth c X b sb L xs) : KT b s s.heap := h.2.2.2.2.2.2.2.1
theorem LC.hX {p : Program} {l : Launch} {s : State} {m : MethodId} {meth : Method} {c : Code} {X : CX} {b sb L : Nat} {xs : Nat → Int32} (h : LC p l s m meth c X b sb L xs) : va_X sb L xs s s.heap := h.2.2.2.2.2.2.2.2.1
theorem LC.hbl {p : Program} {l : Launch} {s : State} {m : MethodId} {meth : Method} {c : Code} {X : CX} {b sb L : Nat} {xs : Nat → Int32} (h : LC p l s m meth c X b sb L xs) : sb < s.heap.size := h.2.2.2.2.2.2.2.2.2.1
theorem LC.hbA {p : Program} {l : Launch} {s : State} {m : MethodId} {meth : Method} {c : Code} {X : CX} {b sb L : Nat} {xs : Nat → Int32} (h : LC p l s m meth c X b sb L xs) : ¬ AA b sb := h.2.2.2.2.2.2.2.2.2.2.1
theorem LC.hst {p : Program} {l : Launch} {s : State} {m : MethodId} {meth : Method} {c : Code} {X : CX} {b sb L : Nat} {xs : Nat → Int32} (h : LC p l s m meth c X b sb L xs) : l.stackTraces = false := h.2.2.2.2.2.2.2.2.2.2.2.1
theorem LC.hL {p : Program} {l : Launch} {s : State} {m : MethodId} {meth : Method} {c : Code} {X : CX} {b sb L : Nat} {xs : Nat → Int32} (h : LC p l s m meth c X b sb L xs) : L ≤ 2048 := h.2.2.2.2.2.2.2.2.2.2.2.2
abbrev LV (b sb k : Nat) : List (Nat × Value) := [(0, .ref sb), (1, .ref (b + 0)), (2, .ref (b + 141)), (3, .ref (b + 173)), (4, .int (nI (4 * k)))]
section LD
variable {p : Program} {l : Launch} {e : Env} {R : Room} {s : State} {m : MethodId} {args : Array Value} {below : List Frame} {meth : Method} {c : Code} {H : Heap} {locs : List Loc} {cells slots : Nat} {Q : State → Prop}
variable {cc : ByteArray} {pc : Nat} {ls : Array Slot} {rest st0 : List Value} {X : CX} {b : Nat} {g : S2} {w : Int64} {H0 : Heap}
variable {own C : String} {y : MethodName} {cy : ByteArray} {maxL nL n index mc ms : Nat} {ret : Option FieldType} {rm : Room} {Qc : Array Value → State → Outcome → State → Prop} {As : List Value} {a : Array Value} {fr : Addr → Prop}
theorem c_V0D (hF : CallFix p m c cc nL s args lw_good own) {i : Nat} (hM : MetD lw_cs l y (wsg y cy maxL ret) rm (Pre X b g w (.ref (b + i) :: As)) Qc mc ms fr) (hK : KK X s) (hW : wd X b g w H) (hi : i < 174) {fs : List Value} {T : u_T} {N ci : Nat} (he : Ent X b g w i = .inr (ci, fs)) (hc : vwCl[ci]? = some (C, T, N))
    (h1 : Cond.methodLink own index y ∈ lw_good) (h2 : Cond.instanceMethod y ∈ lw_good) (h3 : Cond.selects C y y ∈ lw_good) (h4 : Cond.initialized C ∈ lw_good) (h5 : Cond.code y cy maxL ret ∈ lw_good)
    (hd : y.cls = C ∧ y.cls ≠ "java/lang/invoke/MethodHandle" ∧ y.cls ≠ "java/lang/invoke/VarHandle" ∧ (parseMethodDescriptor y.desc).map (fun d => d.parameters.length) = some n) (hR : rm.frames + 1 ≤ R.frames ∧ 8 + (maxL + 11) + rm.locals ≤ R.locals ∧ rm.cells = mc ∧ rm.slots = ms)
    (hst : st0 = As.reverse ++ .ref (b + i) :: rest) (hdg : decode cc pc = .ok (.invokevirtual index, 3)) (hn : As.length = n) (hsz : ls.size = nL) (hre : (rest.map fun v => v.category).sum ≤ 8) (hf : cells + mc ≤ R.cells ∧ slots + ms ≤ R.slots) :
    va_RunD lw_cs p l e R s m args below meth c H locs cells slots mc ms (F0 m pc ls st0) rest (Qc (Value.ref (b + i) :: As).toArray) fr :=
  va_runV_D hF hM ⟨callB_of n hF.2.2.2.2 (good_in h5) rfl hR.2.2.1 hR.2.2.2 (by rw [hd.1]; exact hF.2.2.2.2 _ h4) (hF.2.2.2.2 _ h1) hd.2 ⟨hR.1, hR.2.1⟩, hF.2.2.2.2 _ h2, by have h := hF.2.2.2.2 _ h3; exact h⟩ ⟨Pre_blind, va_recv (q0 := 0) hK.1 (wd_P hW hi he) hc rfl, fun U hU hWm => ⟨rfl, by rw [hU]; exact hW, hK.warm hWm⟩⟩ rfl hn hsz hst (lv_room hre) hdg hf
/-- an int of the script -/
theorem l_sld {sb L : Nat} {xs : Nat → Int32} (C0 : LC p l s m meth c X b sb L xs) (d : Drawn) (hS : va_S (AA b) s.heap H locs) {k j : Nat} (hk : 4 * k + j < L) {x : Int32} (hxv : x = nI j) {args : Array Value} (hdg : decode code pc = .ok (.iadd, 1)) (hd2 : decode code (pc + 1) = .ok (.iaload, 1))
    (kk : W p l e R (s.setDrawn d) m args below meth c H locs cells slots Q (F0 m (pc + 1 + 1) ls (.int (xs (4 * k + j)) :: rest))) : W p l e R (s.setDrawn d) m args below meth c H locs cells slots Q (F0 m pc ls (.int x :: .int (nI (4 * k)) :: .ref sb :: rest)) := by
  have hL := C0.hL
  refine lv_iadd C0.hx C0.hb hdg ?_
  refine w_top (y := nI (4 * k + j)) (by rw [hxv]; exact nI_add _ _) ?_
  refine va_sld (s := s.setDrawn d) (xs := xs) (L := L) C0.hx C0.hb C0.hX C0.hbl C0.hbA hS (vp_in_nI (n := 4 * k + j) (N := L) hk (by omega)) hd2 ?_
  rw [nI_clamp (by omega)]
  exact kk
end LD
/-! what a call of the class leaves of the reference -/
theorem cd_of {g g1 : S2} {er : Nat} {ok : Int32 → S2 → Prop} {r : Int32} (hC : CP g er ok r g1) (h : er = 0 → ok r g1 → EqD g g1) : EqD g g1 := by
  rcases hC with ⟨a, b⟩ | ⟨_, rfl⟩
  · exact h a b
  · exact EqD.rf
theorem cd_okr {nb np : Nat} {g g1 : S2} (I : Inv nb np g) (h : EqD g g1) : OkR 145 nb np g1 := (inv2_eq I.1 EqC.rf h).1.2.2.1.2
theorem cd_set {nb np : Nat} {g g1 : S2} {r a1 a2 a3 : Int32} (I : Inv nb np g) (hC : CP g (er_set a1 a2 a3) (fun r g1 => r = 10 * g (1 + 4 + cl a1) 0 + g (1 + 4 + cl a1) 1 ∧ g1 = u2 (u2 g (1 + 4 + cl a1) 0 a2) (1 + 4 + cl a1) 1 a3) r g1) : EqD g g1 := by
  refine cd_of hC ?_
  · rintro e ⟨-, rfl⟩
    obtain ⟨⟨h1, -⟩, -⟩ := er_set0 e
    exact EqD.tr (eqd_u (by omega)) (eqd_u (by omega))
theorem cd_hold {nb np : Nat} {g g1 : S2} {r a1 : Int32} (I : Inv nb np g) (hC : CP g (er_hold a1) (fun r g1 => r = g 1 6 ∧ g1 = u2 g 1 6 a1) r g1) : EqD g g1 := by
  refine cd_of hC ?_
  · rintro e ⟨-, rfl⟩
    exact eqd_u (by omega)
theorem cd_start {nb np : Nat} {g g1 : S2} {r a1 a2 : Int32} (I : Inv nb np g) (hC : CP g (er_start (g 1 3) a1 a2) (fun r g1 => r = nI nb ∧ g1 = f_addBus g 1 nb a1 a2) r g1) : EqD g g1 := by
  refine cd_of hC ?_
  · rintro e ⟨-, rfl⟩
    have h6 := (nI_np I.1).2.2.2.2.1
    rw [(nI_np I.1).1] at e
    have h7 := (er_start0 e h6).1
    exact EqD.tr (EqD.tr (EqD.tr (eqd_u (by omega)) (eqd_u (by omega))) (eqd_u (by omega))) (eqd_u (by omega))
theorem cd_queue {nb np : Nat} {g g1 : S2} {r a1 a2 : Int32} (I : Inv nb np g) (hC : CP g (er_queue (g 1 4) a1 a2) (fun r g1 => r = nI np ∧ g1 = f_addPas g 1 np a1 a2) r g1) : EqD g g1 := by
  refine cd_of hC ?_
  · rintro e ⟨-, rfl⟩
    have h6 := (nI_np I.1).2.2.2.2.2
    exact EqD.tr (EqD.tr (eqd_u (by omega)) (eqd_u (by omega))) (eqd_u (by omega))
theorem cd_change {nb np : Nat} {g g1 : S2} {r a1 a2 : Int32} (I : Inv nb np g) (hC : CP g (er_change (g 1 4) (g (1 + 20 + cl a1) 0) (g (1 + 20 + cl a1) 1) a1 a2) (fun r g1 => r = f_again g (1 + 20 + cl a1) a2 (g 1 5) (1 + 20 + cl a1) 7 ∧ g1 = f_again g (1 + 20 + cl a1) a2 (g 1 5)) r g1) : EqD g g1 := by
  refine cd_of hC ?_
  rintro e ⟨-, rfl⟩
  obtain ⟨n1, n2, n3, n4, h6, h50⟩ := nI_np I.1
  have h7 : cl a1 < np := by
    unfold er_change at e
    split at e
    · cases e
    · rename_i q
      rw [n2] at q
      exact (in_lt (fun z => q (Or.inl z)) (by omega)).1
  exact EqD.tr (EqD.tr (eqd_u (by omega)) (eqd_u (by omega))) (eqd_u (by omega))
theorem cd_fare {nb np : Nat} {g g1 : S2} {r a1 a2 : Int32} (I : Inv nb np g) (hC : CP g (er_2 9 9 a1 a2) (fun r g1 => r = f_fareI (stg g 1) a1 a2 ∧ g1 = g) r g1) : EqD g g1 := cd_of hC (fun _ h => by rw [h.2]; exact EqD.rf)
theorem cd_bus {nb np : Nat} {g g1 : S2} {r a1 a2 : Int32} (I : Inv nb np g) (hC : CP g (er_2 (g 1 3 - 1) 5 a1 a2) (fun r g1 => r = g (1 + 14 + cl a1) (cl a2 + 1) ∧ g1 = g) r g1) : EqD g g1 := cd_of hC (fun _ h => by rw [h.2]; exact EqD.rf)
theorem cd_passenger {nb np : Nat} {g g1 : S2} {r a1 a2 : Int32} (I : Inv nb np g) (hC : CP g (er_2 (g 1 4 - 1) 6 a1 a2) (fun r g1 => r = g (1 + 20 + cl a1) (cl a2) ∧ g1 = g) r g1) : EqD g g1 := cd_of hC (fun _ h => by rw [h.2]; exact EqD.rf)
theorem cd_stop {nb np : Nat} {g g1 : S2} {r a1 a2 : Int32} (I : Inv nb np g) (hC : CP g (er_2 9 4 a1 a2) (fun r g1 => r = f_tellS g 1 nb np (cl a1) (cl a2) ∧ g1 = g) r g1) : EqD g g1 := cd_of hC (fun _ h => by rw [h.2]; exact EqD.rf)
theorem cd_count {nb np : Nat} {g g1 : S2} {r a1 : Int32} (I : Inv nb np g) (hC : CP g (er_1 0 9 a1) (fun r g1 => r = f_tellC g 1 nb np (cl a1) ∧ g1 = g) r g1) : EqD g g1 := cd_of hC (fun _ h => by rw [h.2]; exact EqD.rf)
theorem cd_go {nb np : Nat} {g g1 : S2} {r a1 : Int32} (I : Inv nb np g) (hC : CP g (er_1 1 120 a1) (fun r g1 => r = nI (cnB (q_in g1 1 2) np) - nI (cnB (q_in g 1 2) np) ∧ g1 = f_mins g 1 nb np (cl a1)) r g1) : EqD g g1 := by
  refine cd_of hC ?_
  rintro e ⟨-, rfl⟩
  have hO : ∀ a, Out 1 a → f_mins g 1 nb np (cl a1) a = g a := fun a ha => fr_mins ha I.1.1.2.2.1.1
  exact ⟨fun a h1 h2 => hO a (Or.inr (by omega)), by rw [hO 141 (Or.inr (by omega))], by rw [hO 141 (Or.inr (by omega))]⟩
theorem cd_foresee {nb np : Nat} {g g1 : S2} {r a1 a2 : Int32} (I : Inv nb np g) (hC : CP g (er_see a1 a2) (fun r g1 => r = f_see g1 nb np (cl a2) ∧ g1 = f_mins (f_copy g 71 1 nb np) 71 nb np (cl a1)) r g1) : EqD g g1 := by
  refine cd_of hC ?_
  rintro e ⟨-, rfl⟩
  obtain ⟨n1, n2, n3, n4, h6, h50⟩ := nI_np I.1
  exact eqd_kp (kp_mins (kp_copy (fun _ _ => rfl) h6 h50) (okl_copy LL71 I.1.1.2.2.1.1 I.2))
theorem cd_arrives {nb np : Nat} {g g1 : S2} {r a1 : Int32} (I : Inv nb np g) (hC : CP g (er_1 0 (g 1 4 - 1) a1) (fun r g1 => f_arrP (f_copy g 71 1 nb np) g1 nb np (cl a1) r) r g1) : EqD g g1 := by
  refine cd_of hC ?_
  rintro e ⟨k, -, -, rfl, -⟩
  obtain ⟨n1, n2, n3, n4, h6, h50⟩ := nI_np I.1
  exact eqd_kp (kp_mins (kp_copy (fun _ _ => rfl) h6 h50) (okl_copy LL71 I.1.1.2.2.1.1 I.2))
theorem cd_advise {nb np : Nat} {g g1 : S2} {r a1 : Int32} (I : Inv nb np g) (hC : CP g (er_1 1 120 a1) (fun r g1 => r = nI (f_adv g nb np (cl a1) 16).2.1 ∧ g1 = (f_adv g nb np (cl a1) 16).1) r g1) : EqD g g1 := by
  refine cd_of hC ?_
  rintro e ⟨-, q⟩
  rw [q]
  exact eqd_kp (adv_ok (mm := cl a1) I.1.1.2.2.1.1 I.2 16).1
