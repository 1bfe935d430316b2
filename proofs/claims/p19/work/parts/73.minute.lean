/-! a whole bus, a whole minute -/
section MIN
variable {o nb np n nR nB nC : Nat} {tv hv : Nat} {g0 g : S2} {e : Nat → Nat}
theorem mid_setS (K0 : OkL o nb np g0) (hhv : hv ≤ 15) {i : Nat} (hi : i < 10) (hBC : nB ≤ nC) (hnb : n ≤ nb) (M : Mid o nb np (nI tv) (nI hv) g0 g n nR nB nC e) : Mid o nb np (nI tv) (nI hv) g0 (u2 g (o + 4 + i) 2 (nI tv)) n nR nB nC e := by
  obtain ⟨a, ⟨b1, b2⟩, c, d, f, q, j, s⟩ := M
  have h6 := a.1.2
  refine ⟨OkL.S a hi, ⟨by rw [u2_n (by omega)]; exact b1, by rw [u2_n (by omega)]; exact b2⟩, fun z hz => ?_, fun z hz => ?_, fun z h1 h2 k hk => by rw [u2_n (by omega)]; exact f z h1 h2 k hk, fun z hz => ?_, fun z hz => ?_, ?_⟩
  · obtain ⟨c1, c2, c3⟩ := c z hz
    by_cases e9 : z = i
    · subst e9
      exact ⟨by rw [u2_k (by decide)]; exact c1, by rw [u2_k (by decide)]; exact c2, Or.inr u2_s⟩
    · rw [u2_ne (by omega)]; exact ⟨c1, c2, c3⟩
  · obtain ⟨⟨r0, d1, d2, d3⟩, d4⟩ := d z hz
    have hc := cl0 K0 (j := z) (by omega)
    rw [u2_ne (show o + 14 + z ≠ o + 4 + i by omega)]
    refine ⟨⟨r0, d1, d2, d3.mono hhv ?_⟩, d4⟩
    show u2 g (o + 4 + i) 2 (nI tv) (o + 4 + cl (g0 (o + 14 + z) 1)) 2 = _ ∨ u2 g (o + 4 + i) 2 (nI tv) (o + 4 + cl (g0 (o + 14 + z) 1)) 2 = _
    by_cases e9 : cl (g0 (o + 14 + z) 1) = i
    · rw [e9, u2_s]; exact Or.inr rfl
    · rw [u2_n (by omega)]; exact Or.inl rfl
  · rw [u2_ne (show o + 20 + z ≠ o + 4 + i by omega)]
    exact (q z hz).mono (Nat.le_refl _) (Nat.le_refl _) hBC (fun j hj => by
      show u2 g (o + 4 + i) 2 _ (o + 14 + j) 1 = g (o + 14 + j) 1
      rw [u2_app, if_neg (by omega)])
  · unfold RidOk
    rw [rid_congr (g := g) (fun z hz => by rw [u2_n (by omega), u2_n (by omega)]; exact ⟨rfl, rfl⟩), u2_n (by omega), u2_n (by omega)]
    exact j z hz
  · exact (sumF_congr (fun z hz => by rw [u2_n (by omega)])).trans (s.trans (sumF_congr (fun z hz => by rw [u2_n (by omega)])).symm)
theorem mid_done (M : Mid o nb np (nI tv) (nI hv) g0 g n (n + 1) nB nC (fun _ => 0)) (hB : nB ≤ n + 1) (hC : nC ≤ n + 1) (hBC : nB ≤ nC) {r0 : Nat} (hr : r0 ≤ 40) (h3 : g0 (o + 14 + n) 3 = nI r0) (hG : BusG (nI tv) (nI hv) (fun i => g0 (o + 4 + i)) (fun i => g (o + 4 + i)) (g0 (o + 14 + n)) (g (o + 14 + n)) r0) (hT : Tak 600 (g0 (o + 14 + n)) (g (o + 14 + n))) : Mid o nb np (nI tv) (nI hv) g0 g (n + 1) (n + 1) (n + 1) (n + 1) (fun _ => 0) := by
  obtain ⟨a, b, c, d, f, q, j⟩ := M
  refine ⟨a, b, c, fun z hz => ?_, f, fun z hz => (q z hz).mono hB hC hBC (fun _ _ => rfl), j⟩
  rcases Nat.lt_or_ge z n with h | h
  · exact d z h
  · obtain rfl : z = n := by omega
    exact ⟨⟨r0, hr, h3, hG⟩, hT⟩
/-- what the minute asks of the line at its beginning -/
def Beg (o nb : Nat) (g0 : S2) : Prop := (∀ j, j < nb → (∃ r0, r0 ≤ 40 ∧ g0 (o + 14 + j) 3 = nI r0 ∧ (g0 (o + 14 + j) 2 = 1 → 1 ≤ r0)) ∧ ∃ a, a < 2 ^ 30 ∧ g0 (o + 14 + j) 6 = nI a)
theorem lets_iff {i : Nat} {t h : Int32} : f_lets g i t h = 1 ↔ (h = 0 ∨ g i 2 = -1 ∨ ¬ (t - g i 2 < h)) := by
  unfold f_lets
  constructor
  · intro q
    split at q
    · assumption
    · exact absurd q (by decide)
  · intro q
    rw [if_pos q]
theorem mid_stand (K0 : OkL o nb np g0) (hhv : hv ≤ 15) (htv : tv < 2 ^ 29) (B0 : Beg o nb g0) (hn : n < nb) (hg : g (o + 14 + n) 2 = 0) (M : Mid o nb np (nI tv) (nI hv) g0 g n n n n (fun _ => 0)) : Mid o nb np (nI tv) (nI hv) g0 (f_stand g o (o + 14 + n)) (n + 1) (n + 1) (n + 1) (n + 1) (fun _ => 0) := by
  have hrow := M.2.2.2.2.1 n (Nat.le_refl n) hn
  obtain ⟨⟨r0, hr, h3, hr1⟩, a, ha, ha6⟩ := B0 n hn
  have hc := cl0 K0 hn
  have hlow : ∀ g1 : S2, g1 (o + 14 + n) 6 = g (o + 14 + n) 6 → Tak 600 (g0 (o + 14 + n)) (g1 (o + 14 + n)) := fun g1 h => ⟨a, 0, ha, by omega, ha6, by rw [h, hrow 6 (by decide)]; exact ha6⟩
  have M1 := M.weak (Nat.le_succ n) (Nat.le_refl n) (Nat.le_refl n) (Nat.le_refl n)
  -- behind the first half
  have S1 : Mid o nb np (nI tv) (nI hv) g0 (f_std1 g (o + 14 + n)) n (n + 1) n n (fun _ => 0) ∧ f_std1 g (o + 14 + n) (o + 14 + n) 3 = nI (r0 - 1) ∧ ∀ k, k ≠ 3 → f_std1 g (o + 14 + n) (o + 14 + n) k = g (o + 14 + n) k := by
    unfold f_std1
    rw [hrow 3 (by decide), h3]
    rcases Nat.eq_zero_or_pos r0 with q | q
    · rw [q, if_neg (by decide)]
      exact ⟨M1, by rw [hrow 3 (by decide), h3, q], fun _ _ => rfl⟩
    · rw [if_pos (show (0 : Int32) < nI r0 from nI_lt (a := 0) q (by omega)), show (1 : Int32) = nI 1 from rfl, pk_sub q]
      exact ⟨mid_setB K0 hhv (Or.inr (Or.inr rfl)) (Nat.lt_succ_self n) hn (Nat.le_refl n) (by omega) (by omega) (by omega) M1, u2_s, fun k hk => u2_k hk⟩
  unfold f_stand
  obtain ⟨S1, S2, S3⟩ := S1
  generalize f_std1 g (o + 14 + n) = g1 at S1 S2 S3 ⊢
  have h1 : g1 (o + 14 + n) 1 = g0 (o + 14 + n) 1 := (S3 1 (by decide)).trans (hrow 1 (by decide))
  have hst := S1.2.2.1 _ hc
  have hT1 := hlow g1 (S3 6 (by decide))
  unfold f_std2
  rw [h1, S2, S1.2.1.1, S1.2.1.2]
  by_cases q : nI (r0 - 1) = 0 ∧ f_lets g1 (o + 4 + cl (g0 (o + 14 + n) 1)) (nI tv) (nI hv) = 1
  · rw [if_pos q]
    have hr01 : r0 ≤ 1 := by
      rcases Nat.lt_or_ge 1 r0 with z | z
      · exact absurd q.1 (nI_ne0 (by omega) (by omega))
      · exact z
    have T1 := mid_setS K0 hhv hc (Nat.le_refl n) (by omega) S1
    have T2 := mid_setB (k := 2) (x := 1) K0 hhv (Or.inr (Or.inl rfl)) (Nat.lt_succ_self n) hn (Nat.le_refl n) (by omega) (by omega) (fun _ => Or.inr rfl) T1
    have T3 := mid_setB (k := 3) (x := g1 (o + 4 + cl (g0 (o + 14 + n) 1)) 0) K0 hhv (Or.inr (Or.inr rfl)) (Nat.lt_succ_self n) hn (Nat.le_refl n) (by omega) (by omega) (by omega) T2
    refine mid_done T3 (by omega) (by omega) (Nat.le_refl n) hr h3 (Or.inr (Or.inr (Or.inr ⟨by rw [← hrow 2 (by decide)]; exact hg, hr01, by rw [u2_k (by decide), u2_s], by rw [u2_k (by decide), u2_k (by decide), u2_n (by omega)]; exact h1, by rw [u2_s]; exact hst.1, ?_, ?_⟩))) ?_
    · show u2 _ _ _ _ (o + 4 + cl (g0 (o + 14 + n) 1)) 2 = _
      rw [u2_n (by omega), u2_n (by omega), u2_s]
    · rcases hst.2.2 with z | z
      · have := lets_iff.mp q.2
        rw [z] at this
        exact this
      · rcases lets_iff.mp q.2 with y | y | y
        · exact Or.inl y
        · exfalso
          rw [z] at y
          have := congrArg Int32.toInt y
          rw [nI_toInt (by omega)] at this
          have h9 : (-1 : Int32).toInt = -1 := by decide
          omega
        · rw [z, sub_self] at y
          refine Or.inl ?_
          rcases Nat.eq_zero_or_pos hv with w | w
          · rw [w]; rfl
          · exact absurd (show (0 : Int32) < nI hv from nI_lt (a := 0) w (by omega)) y
    · exact hlow _ (by rw [u2_k (by decide), u2_k (by decide), u2_n (by omega)]; exact S3 6 (by decide))
  · rw [if_neg q]
    refine mid_done S1 (by omega) (by omega) (Nat.le_refl n) hr h3 (Or.inr (Or.inr (Or.inl ⟨by rw [← hrow 2 (by decide)]; exact hg, by rw [S3 2 (by decide)]; exact hg, h1, S2, fun z => ?_⟩))) hT1
    have hl : ¬ f_lets g1 (o + 4 + cl (g0 (o + 14 + n) 1)) (nI tv) (nI hv) = 1 := fun y => q ⟨by rw [show r0 - 1 = 0 by omega]; rfl, y⟩
    rw [lets_iff] at hl
    refine ⟨fun y => hl (Or.inl y), ?_⟩
    exact Classical.byContradiction fun y => hl (Or.inr (Or.inr y))
theorem mid_drive (K0 : OkL o nb np g0) (hhv : hv ≤ 15) (B0 : Beg o nb g0) (hn : n < nb) (hg : ¬ g (o + 14 + n) 2 = 0) (M : Mid o nb np (nI tv) (nI hv) g0 g n n n n (fun _ => 0)) : Mid o nb np (nI tv) (nI hv) g0 (f_drive g o (o + 14 + n) np) (n + 1) (n + 1) (n + 1) (n + 1) (fun _ => 0) := by
  have hrow := M.2.2.2.2.1 n (Nat.le_refl n) hn
  obtain ⟨⟨r0, hr, h3, hr1⟩, a, ha, ha6⟩ := B0 n hn
  have h50 := K0.2.1.2
  have hgo : g0 (o + 14 + n) 2 = 1 := by
    rcases (K0.2.2.2.1 n hn).2 with z | z
    · rw [hrow 2 (by decide)] at hg; exact absurd z hg
    · exact z
  have hr1 := hr1 hgo
  have M1 := M.weak (Nat.le_succ n) (Nat.le_refl n) (Nat.le_refl n) (Nat.le_refl n)
  have hsub : nI r0 - 1 = nI (r0 - 1) := by rw [show (1 : Int32) = nI 1 from rfl, pk_sub hr1]
  unfold f_drive
  rw [hrow 3 (by decide), h3, hsub]
  by_cases q : 0 < nI (r0 - 1)
  · rw [if_pos q]
    have hr2 : 1 < r0 := by
      rcases Nat.lt_or_ge 1 r0 with z | z
      · exact z
      · rw [show r0 - 1 = 0 by omega] at q; exact absurd q (by decide)
    have T1 := mid_setB (k := 3) (x := nI (r0 - 1)) K0 hhv (Or.inr (Or.inr rfl)) (Nat.lt_succ_self n) hn (Nat.le_refl n) (by omega) (by omega) (by omega) M1
    exact mid_done T1 (by omega) (by omega) (Nat.le_refl n) hr h3 (Or.inl ⟨hgo, hr2, by rw [u2_k (by decide), hrow 2 (by decide)]; exact hgo, by rw [u2_k (by decide)]; exact hrow 1 (by decide), u2_s⟩) ⟨a, 0, ha, by omega, ha6, by rw [u2_k (by decide), hrow 6 (by decide)]; exact ha6⟩
  · rw [if_neg q]
    have hr2 : r0 ≤ 1 := by
      rcases Nat.lt_or_ge 1 r0 with z | z
      · exact absurd (nI_lt (a := 0) (by omega) (by omega)) q
      · exact z
    have hA : Mid o nb np (nI tv) (nI hv) g0 (f_arr g (o + 14 + n)) n (n + 1) n n (fun _ => 0) := by
      unfold f_arr
      refine mid_setB (k := 2) (x := 0) K0 hhv (Or.inr (Or.inl rfl)) (Nat.lt_succ_self n) hn (Nat.le_refl n) (by omega) (by omega) (fun _ => Or.inl rfl) ?_
      refine mid_setB (k := 1) K0 hhv (Or.inl rfl) (Nat.lt_succ_self n) hn (Nat.le_refl n) (fun _ => Nat.le_refl n) (fun _ => ?_) (by omega) ?_
      · rw [hrow 1 (by decide)]; exact (K0.2.2.2.1 n hn).1.next
      · exact mid_setB (k := 3) K0 hhv (Or.inr (Or.inr rfl)) (Nat.lt_succ_self n) hn (Nat.le_refl n) (by omega) (by omega) (by omega) M1
    have hA1 : f_arr g (o + 14 + n) (o + 14 + n) 1 = rem10 (g0 (o + 14 + n) 1 + 1) := by
      unfold f_arr
      rw [u2_k (by decide), u2_s, hrow 1 (by decide)]
    have hA2 : f_arr g (o + 14 + n) (o + 14 + n) 2 = 0 := by unfold f_arr; rw [u2_s]
    have hA6 : f_arr g (o + 14 + n) (o + 14 + n) 6 = nI a := by
      unfold f_arr
      rw [u2_k (by decide), u2_k (by decide), u2_k (by decide), hrow 6 (by decide)]; exact ha6
    generalize f_arr g (o + 14 + n) = g1 at hA hA1 hA2 hA6 ⊢
    have hA' := mid_e (hA.weak (nR' := n + 1) (nB' := n) (nC' := n + 1) (Nat.le_refl _) (Nat.le_refl n) (Nat.le_succ n) (Nat.le_refl n)) (e1_0 (n := n))
    obtain ⟨-, hO2, hO3⟩ := mid_offs K0 hhv hn hA' np (Nat.le_refl _)
    have hL := (mid_letOff K0 hhv hn hA').weak (nR' := n + 1) (nB' := n + 1) (nC' := n + 1) (Nat.le_refl _) (Nat.le_succ n) (Nat.le_refl _) (Nat.le_succ n)
    have hLk : ∀ k, k ≠ 5 → f_letOff g1 o (o + 14 + n) np (o + 14 + n) k = g1 (o + 14 + n) k := fun k hk => by
      unfold f_letOff
      rw [u2_k hk, hO2]
    have hAt : At o n 0 g0 (f_letOff g1 o (o + 14 + n) np) := ⟨(hLk 1 (by decide)).trans hA1, (hLk 2 (by decide)).trans hA2, a, 0, ha, by omega, ha6, (hLk 6 (by decide)).trans hA6⟩
    obtain ⟨hN1, ⟨t1, t2, t3⟩, hN3⟩ := mid_ons K0 hhv hn hL hAt np (Nat.le_refl _)
    generalize f_ons (f_letOff g1 o (o + 14 + n) np) o (o + 14 + n) np = r at hN1 t1 t2 t3 hN3 ⊢
    generalize (f_offs g1 o (o + 14 + n) np).2 = c at hO3 ⊢
    have hv3 : (1 : Int32) + nI r.2 / 2 + nI c / 4 = nI (1 + r.2 / 2 + c / 4) := by
      rw [show (2 : Int32) = nI 2 from rfl, show (4 : Int32) = nI 4 from rfl, show (1 : Int32) = nI 1 from rfl, pk_div (by omega) (by decide) (by decide), pk_div (by omega) (by decide) (by decide), nI_add, nI_add]
    rw [hv3]
    have T1 := mid_setB (k := 3) (x := nI (1 + r.2 / 2 + c / 4)) K0 hhv (Or.inr (Or.inr rfl)) (Nat.lt_succ_self n) hn (Nat.le_refl _) (by omega) (by omega) (by omega) hN1
    refine mid_done (mid_e T1 (e1_0 (n := n)).symm) (Nat.le_refl _) (Nat.le_refl _) (Nat.le_refl _) hr h3 (Or.inr (Or.inl ⟨hgo, hr2, by rw [u2_k (by decide)]; exact t2, by rw [u2_k (by decide)]; exact t1, _, ?_, ?_, u2_s⟩)) ?_
    · omega
    · omega
    · obtain ⟨u, w, w1, w2, w3, w4⟩ := t3
      exact ⟨u, w, w1, by omega, w3, by rw [u2_k (by decide)]; exact w4⟩
theorem mid_bus1 (K0 : OkL o nb np g0) (hhv : hv ≤ 15) (htv : tv < 2 ^ 29) (B0 : Beg o nb g0) (hn : n < nb) (M : Mid o nb np (nI tv) (nI hv) g0 g n n n n (fun _ => 0)) : Mid o nb np (nI tv) (nI hv) g0 (f_bus1 g o np n) (n + 1) (n + 1) (n + 1) (n + 1) (fun _ => 0) := by
  unfold f_bus1
  by_cases q : g (o + 14 + n) 2 = 0
  · rw [if_pos q]; exact mid_stand K0 hhv htv B0 hn q M
  · rw [if_neg q]; exact mid_drive K0 hhv B0 hn q M
theorem mid_buses (K0 : OkL o nb np g0) (hhv : hv ≤ 15) (htv : tv < 2 ^ 29) (B0 : Beg o nb g0) (M : Mid o nb np (nI tv) (nI hv) g0 g0 0 0 0 0 (fun _ => 0)) : ∀ n, n ≤ nb → Mid o nb np (nI tv) (nI hv) g0 (f_buses g0 o np n) n n n n (fun _ => 0)
  | 0, _ => M
  | n + 1, hn => mid_bus1 K0 hhv htv B0 (by omega) (mid_buses K0 hhv htv B0 M n (by omega))
/-- waiting: passengers below n -/
theorem waitN_at : ∀ {n : Nat}, n ≤ 50 → ∀ a, f_waitN g o n a = if o + 20 ≤ a ∧ a < o + 20 + n ∧ g a 0 = 0 then upd (g a) 5 (g a 5 + 1) else g a
  | 0, _, a => by rw [if_neg (by omega)]; rfl
  | n + 1, hn, a => by
    have ih := waitN_at (n := n) (by omega)
    have hrow : f_waitN g o n (o + 20 + n) = g (o + 20 + n) := by rw [ih, if_neg (by omega)]
    show f_wait1 (f_waitN g o n) o n a = _
    unfold f_wait1
    rw [hrow]
    by_cases e9 : a = o + 20 + n
    · subst e9
      by_cases q : g (o + 20 + n) 0 = 0
      · rw [if_pos q, if_pos ⟨by omega, by omega, q⟩, u2_row, hrow]
      · rw [if_neg q, if_neg (fun z => q z.2.2), hrow]
    · have hc : (o + 20 ≤ a ∧ a < o + 20 + (n + 1) ∧ g a 0 = 0) ↔ (o + 20 ≤ a ∧ a < o + 20 + n ∧ g a 0 = 0) := ⟨fun z => ⟨z.1, by omega, z.2.2⟩, fun z => ⟨z.1, by omega, z.2.2⟩⟩
      rw [show (if o + 20 ≤ a ∧ a < o + 20 + (n + 1) ∧ g a 0 = 0 then upd (g a) 5 (g a 5 + 1) else g a) = (if o + 20 ≤ a ∧ a < o + 20 + n ∧ g a 0 = 0 then upd (g a) 5 (g a 5 + 1) else g a) by simp only [hc], ← ih a]
      split
      · rw [u2_ne e9]
      · rfl
end MIN
