/-! the mean: a double that may be drawn -/
theorem KK.dr {X : CX} {s : State} (h : KK X s) (d : Drawn) : KK X (s.setDrawn d) := ⟨va_K.moved (u := s) (U := s.setDrawn d) (Vm.Alike.refl s.vm) h.1, KW.same (u := s) (U := s.setDrawn d) rfl h.2⟩
def mv (np : Nat) (s : Int32) (r : UInt64) : Prop := (np = 0 ∧ r = FP.dconst0) ∨ (¬ np = 0 ∧ alike64 r (FP.ddiv (FP.i2d s) (FP.i2d (nI np))) = true)
abbrev Qd (X : CX) (b : Nat) (w : Int64) (post : UInt64 → S2 → Prop) := va_Qd post (fun g t => wd X b g w t.heap) (AA b)
theorem nI_z0 {n : Nat} (hn : n < 2000) : nI n = 0 ↔ n = 0 := by
  rw [show (0 : Int32) = nI 0 from rfl, nI_eq (by omega) (by omega)]
section KD
variable {p : Program} {l : Launch} {e : Env} {R : Room} {s : State} {m : MethodId} {args : Array Value} {below : List Frame} {meth : Method} {c : Code} {H : Heap} {locs : List Loc} {cells slots : Nat} {Q : State → Prop}
variable {pc : Nat} {ls : Array Slot} {rest : List Value}
theorem w_dr {d : Drawn} (h : s.drawn = d) (kk : W p l e R (s.setDrawn d) m args below meth c H locs cells slots Q (F0 m pc ls rest)) : W p l e R (s.setDrawn s.drawn) m args below meth c H locs cells slots Q (F0 m pc ls rest) := h ▸ kk
end KD
