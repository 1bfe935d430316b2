/-! from the entry to the end -/
theorem arrOfT_of {U : State} {cA comp : ClassId} {kA : Class} {ty : FieldType} (h2 : U.vm.classes[cA]? = some kA) (h3 : kA.kind = .array comp ty) : ArrOfT U cA ty := fun n z => ⟨(fun k h => by cases h), kA, h2, comp, h3⟩
/-- the classes and arrays as the tables have them -/
theorem kk_entry {s : State} {av : Array Value} (hts0 : ∀ w ∈ lw_tbl, w.before av s = true) : ∃ X : CX, KK X s := by
  have hts : ∀ w ∈ lw_good, w.before av s = true := fun w h => hts0 w (lw_good_tbl h)
  obtain ⟨c0, i0, k0⟩ := u_known hts inX0 (hts _ q_55)
  obtain ⟨c1, i1, k1⟩ := u_known hts inX1 (hts _ q_24)
  obtain ⟨c2, i2, k2⟩ := u_known hts inX2 (hts _ q_90)
  obtain ⟨c3, i3, k3⟩ := u_known hts inX3 (hts _ q_35)
  obtain ⟨c4, i4, k4⟩ := u_known hts inX4 (hts _ q_16)
  obtain ⟨c5, i5, k5⟩ := u_known hts inX5 (hts _ q_534)
  obtain ⟨c6, i6, k6⟩ := u_known hts inX6 (hts _ q_528)
  obtain ⟨a0, ka0, co0, f0, g0, h0⟩ := Cond.arrayClass_spec (hts _ q_603)
  obtain ⟨a1, ka1, co1, f1, g1, h1⟩ := Cond.arrayClass_spec (hts _ q_795)
  obtain ⟨co2, a2, ka2, e2, -, g2, h2, f2⟩ := Cond.arrayOver_spec (n := RX3) (hts0 _ (List.mem_of_getElem? (i := 45) (by decide +kernel)))
  obtain ⟨co3, a3, ka3, e3, -, g3, h3, f3⟩ := Cond.arrayOver_spec (n := RX0) (hts0 _ (List.mem_of_getElem? (i := 47) (by decide +kernel)))
  obtain ⟨co4, a4, ka4, e4, -, g4, h4, f4⟩ := Cond.arrayOver_spec (n := RX2) (hts0 _ (List.mem_of_getElem? (i := 49) (by decide +kernel)))
  refine ⟨((fun c => match c with | 0 => c0 | 1 => c1 | 2 => c2 | 3 => c3 | 4 => c4 | 5 => c5 | _ => c6, fun c => match c with | 0 => i0 | 1 => i1 | 2 => i2 | 3 => i3 | 4 => i4 | 5 => i5 | _ => i6), fun t => match t with | 0 => a0 | 1 => a1 | 2 => a2 | 3 => a3 | _ => a4), ⟨fun c q hq => ?_, fun k q hk => ?_⟩, fun w hw he => va_Nw.of (ext_tables he) (hts0 w hw)⟩
  · match c, hq with
    | 0, hq => cases hq; exact k0
    | 1, hq => cases hq; exact k1
    | 2, hq => cases hq; exact k2
    | 3, hq => cases hq; exact k3
    | 4, hq => cases hq; exact k4
    | 5, hq => cases hq; exact k5
    | 6, hq => cases hq; exact k6
    | c + 7, hq => simp at hq
  · match k, hk with
    | 0, hk => cases hk; exact ⟨arrOfT_of g0 h0, f0⟩
    | 1, hk => cases hk; exact ⟨arrOfT_of g1 h1, f1⟩
    | 2, hk => cases hk; exact ⟨arrOfT_of g2 h2, ka2, co2, g2, h2, e2, f2⟩
    | 3, hk => cases hk; exact ⟨arrOfT_of g3 h3, ka3, co3, g3, h3, e3, f3⟩
    | 4, hk => cases hk; exact ⟨arrOfT_of g4 h4, ka4, co4, g4, h4, e4, f4⟩
    | k + 5, hk => simp [tyl] at hk
theorem ka_entry {s : State} {av : Array Value} (hts0 : ∀ w ∈ lw_tbl, w.before av s = true) : KA s :=
  ⟨va_AO.of (hts0 _ (List.mem_of_getElem? (i := 45) (by decide +kernel))), va_AO.of (hts0 _ (List.mem_of_getElem? (i := 47) (by decide +kernel))), va_AO.of (hts0 _ (List.mem_of_getElem? (i := 49) (by decide +kernel)))⟩
theorem str_entry {s : State} {av : Array Value} {cur : ClassId} (hcur : s.vm.findClass RX4 = some cur) (hts : ∀ w ∈ lw_tbl, w.before av s = true) {k : Nat} {t : String} (h : Cond.stringRef RX4 k t ∈ lw_tbl) : ∃ sa : Nat, vk_R RX4 k t sa s := by
  obtain ⟨_, _, _, a, -, -, -, -, -, he⟩ := Cond.stringRef_spec hcur (hts _ h)
  exact ⟨a, vk_R.of (hts _ h) he⟩
set_option maxRecDepth 100000 in
theorem kt_entry {s : State} {av : Array Value} {cur : ClassId} (hcur : s.vm.findClass RX4 = some cur) (hts0 : ∀ w ∈ lw_tbl, w.before av s = true) (hgv : (Jvm.Cond.and given_1 narrow_1).before av s = true) : KT s.heap.size s s.heap := by
  have hts : ∀ w ∈ lw_good, w.before av s = true := fun w h => hts0 w (lw_good_tbl h)
  have hs := flat_of_before _ hgv
  have hA : ∀ a : Nat, a < s.heap.size → ¬ AA s.heap.size a := fun a h q => absurd q (Nat.not_le.mpr h)
  refine ⟨vx_Zqof (hts0 _ (List.mem_of_getElem? (i := 283) (by decide +kernel))) (hts _ q_8) (hs _ (by decide +kernel)) hA, vx_Zqof (hts0 _ (List.mem_of_getElem? (i := 285) (by decide +kernel))) (hts _ q_8) (hs _ (by decide +kernel)) hA, ?_, ?_⟩
  · have hk : ∀ q ∈ strs, Cond.stringRef RX4 q.1 q.2 ∈ lw_tbl := by decide +kernel
    exact fun q hq => str_entry hcur hts0 (hk q hq)
  · have hk : ∀ q ∈ ncs, Cond.not (.castable q.1 q.2) ∈ flatC (Jvm.Cond.and given_1 narrow_1) := by decide +kernel
    exact fun q hq => va_Nc.of (hs _ (hk q hq))
