set_option maxHeartbeats 1000000 in
set_option maxRecDepth 100000 in
theorem metX6_digest (l : Launch) (X : CX) (b : Nat) (w : Int64) (g : S2) {nb np : Nat} (h : OkR 145 nb np g) : Met l yX6_digest (wsg yX6_digest cX6_digest 5 (some .long)) ({ frames := 2, cells := 446, slots := 3016, locals := 48 }) (Pre X b g w [.ref (b + 141)]) (Ql X b w (fun (r : Int64) (g1 : S2) => r = r_dig (thr0 g) nb np ∧ g1 = thr0 g)) 446 3016 (AA b) := by
  refine Met.ofW (cc := cX6_digest) (maxL := 5) (ret := (some .long)) (by decide) rfl ?_
  intro p e s m args below meth c s₁ Bo hml hv
  obtain ⟨rfl, hW, hK⟩ := hv
  have hx := Bo.exec
  have hb := Bo.bytes
  have hr := Bo.returns
  have hts := hts_of (atoms_spec (ws := wsg yX6_digest cX6_digest 5 (some .long)) Bo.pre)
  have hown : s.vm.findClass RX6 = some m.cls := findClass_of_methodNamed Bo.named
  have hlocks := Bo.notSynchronized
  have hS : va_S (AA b) s.heap s.heap [] := va_S.rf
  have hl := lv_entry ([.ref (b + 141)]) (n := 5) (Nat.le_of_ble_eq_true rfl)
  rw [lg_entry_eq]
  generalize (lg_sl ([.ref (b + 141)]) ++ List.replicate (5 - (lg_sl ([.ref (b + 141)])).length) Slot.unset).toArray = ls at hl ⊢
  have hl : lv_has ls 5 [(0, .ref (b + 141))] := hl
  refine lv_aload_n hx hb dX6_digest_0 rfl (lv_at hl 0 rfl) ?_
  refine lv_iconst (v := 0) hx hb dX6_digest_1 (by decide) ?_
  refine w_put hx hb hts inX6 tyX6 tyX6_ok nmX6 hown hK hW hS (by decide) (Ent_M) rfl 0 (by decide) q_604 (fun _ h => h) rfl rfl rfl (Nat.le_of_ble_eq_true rfl) (setM (by decide)) dX6_digest_2 (fun H locs hW hS => ?_)
  obtain ⟨ga, ega⟩ : ∃ z, z = thr0 g := ⟨_, rfl⟩
  replace hW : wd X b ga w H := by rw [ega]; exact hW
  have ha1 : OkR 145 nb np ga := by rw [ega]; exact h.thr (Or.inl rfl)
  obtain ⟨⟨hB, hnb⟩, ⟨hP, hnp⟩, hbus, hpas⟩ := id ha1
  refine lv_ldc2 hx hb hown (hts _ q_793) dX6_digest_5 ?_
  refine lv_lstore_n (lv' := [(1, .long 1039), (0, .ref (b + 141))]) hx hb dX6_digest_8 rfl hl (by decide) rfl (fun ls hl => ?_)
  refine lv_iconst (v := 0) hx hb dX6_digest_9 (by decide) ?_
  refine lv_istore_n (lv' := [(3, .int 0), (1, .long 1039), (0, .ref (b + 141))]) hx hb dX6_digest_10 rfl hl (by decide) rfl (fun ls hl => ?_)
  refine W.widen (k := 0) (n := 10 * 0) (by first | omega | (dsimp only; omega)) (by first | omega | (dsimp only; omega)) ?_
  refine w_loopC (σ := Int64) (10) (fun i x9 => x9 = dig1 1039 (rt_cnt ga nb np) i) (fun i x9 => ga) (fun i x9 => [(0, .ref (b + 141)), (1, .long (x9)), (3, .int (nI i))]) (fun i => i) (fun i => 10 * i) 0 (1039) (Nat.zero_le _) dig1_0.symm ⟨rfl, rfl⟩ hW hS (lv_sub hl [2, 1, 0] rfl) ?_
  clear hW hS hl
  intro i sm H locs ls hi_i hI hW hS hl ih_i
  replace hl : lv_has ls 5 [(0, .ref (b + 141)), (1, .long sm), (3, .int (nI i))] := hl
  replace hI : sm = dig1 1039 (rt_cnt ga nb np) i := hI
  refine lv_iload_n hx hb dX6_digest_11 rfl (lv_at hl 2 rfl) ?_
  refine lv_bipush (v := 9) hx hb dX6_digest_12 (by decide) ?_
  refine lv_icmp_gt (tgt := 36) hx hb dX6_digest_14 (by decide) (fun c_1 => ?_) (fun c_1 => ?_)
  · have hin := br_lt (show (9 : Int32) = nI 9 from rfl) rfl (by omega) (by omega) c_1
    obtain rfl : 10 = i := by omega
    obtain ⟨z1, ez1⟩ : ∃ z, z = dig1 1039 (rt_cnt ga nb np) 10 := ⟨_, rfl⟩
    rw [← ez1] at hI
    refine lv_iconst (v := 0) hx hb dX6_digest_36 (by decide) ?_
    refine lv_istore_n (lv' := [(3, .int 0), (0, .ref (b + 141)), (1, .long sm)]) hx hb dX6_digest_37 rfl hl (by decide) rfl (fun ls hl => ?_)
    refine W.widen (k := 10 + (5 * 0)) (n := 100 + 5 * (5 * 0)) (by first | omega | (dsimp only; omega)) (by first | omega | (dsimp only; omega)) ?_
    refine w_loopC (σ := Int64) (10) (fun i x9 => x9 = dig2 z1 (rt_stop ga nb np) 5 i) (fun i x9 => ga) (fun i x9 => [(0, .ref (b + 141)), (1, .long (x9)), (3, .int (nI i))]) (fun i => 10 + (5 * i)) (fun i => 100 + 5 * (5 * i)) 0 (sm) (Nat.zero_le _) (hI.trans dig2_0.symm) ⟨rfl, rfl⟩ hW hS (lv_sub hl [1, 2, 0] rfl) ?_
    clear hW hS hl
    intro i sm H locs ls hi_i hI hW hS hl ih_i
    replace hl : lv_has ls 5 [(0, .ref (b + 141)), (1, .long sm), (3, .int (nI i))] := hl
    replace hI : sm = dig2 z1 (rt_stop ga nb np) 5 i := hI
    refine lv_iload_n hx hb dX6_digest_38 rfl (lv_at hl 2 rfl) ?_
    refine lv_bipush (v := 10) hx hb dX6_digest_39 (by decide) ?_
    refine lv_icmp_ge (tgt := 80) hx hb dX6_digest_41 (by decide) (fun c_2 => ?_) (fun c_2 => ?_)
    · have hin := br_le (show (10 : Int32) = nI 10 from rfl) rfl (by omega) (by omega) c_2
      obtain rfl : 10 = i := by omega
      obtain ⟨z2, ez2⟩ : ∃ z, z = dig2 z1 (rt_stop ga nb np) 5 10 := ⟨_, rfl⟩
      rw [← ez2] at hI
      refine lv_iconst (v := 0) hx hb dX6_digest_80 (by decide) ?_
      refine lv_istore_n (lv' := [(3, .int 0), (0, .ref (b + 141)), (1, .long sm)]) hx hb dX6_digest_81 rfl hl (by decide) rfl (fun ls hl => ?_)
      refine W.widen (k := 60 + (6 * 0)) (n := 350 + 6 * (6 * 0)) (by first | omega | (dsimp only; omega)) (by first | omega | (dsimp only; omega)) ?_
      refine w_loopC (σ := Int64) (nb) (fun i x9 => x9 = dig2 z2 (fun j k => rt_bus ga j np k) 6 i) (fun i x9 => ga) (fun i x9 => [(0, .ref (b + 141)), (1, .long (x9)), (3, .int (nI i))]) (fun i => 60 + (6 * i)) (fun i => 350 + 6 * (6 * i)) 0 (sm) (Nat.zero_le _) (hI.trans dig2_0.symm) ⟨rfl, rfl⟩ hW hS (lv_sub hl [1, 2, 0] rfl) ?_
      clear hW hS hl
      intro i sm H locs ls hi_i hI hW hS hl ih_i
      replace hl : lv_has ls 5 [(0, .ref (b + 141)), (1, .long sm), (3, .int (nI i))] := hl
      replace hI : sm = dig2 z2 (fun j k => rt_bus ga j np k) 6 i := hI
      refine lv_iload_n hx hb dX6_digest_82 rfl (lv_at hl 2 rfl) ?_
      refine lv_aload_n hx hb dX6_digest_83 rfl (lv_at hl 0 rfl) ?_
      refine w_get hx hb hts inX6 hown hK hW (by decide) (Ent_M) rfl 1 (by decide) q_605 (fun _ h => h) rfl dX6_digest_84 ?_
      refine lv_icmp_ge (tgt := 126) hx hb dX6_digest_87 (by decide) (fun c_3 => ?_) (fun c_3 => ?_)
      · have hin := br_le hB rfl (by omega) (by omega) c_3
        obtain rfl : nb = i := by omega
        obtain ⟨z3, ez3⟩ : ∃ z, z = dig2 z2 (fun j k => rt_bus ga j np k) 6 nb := ⟨_, rfl⟩
        rw [← ez3] at hI
        refine lv_iconst (v := 0) hx hb dX6_digest_126 (by decide) ?_
        refine lv_istore_n (lv' := [(3, .int 0), (0, .ref (b + 141)), (1, .long sm)]) hx hb dX6_digest_127 rfl hl (by decide) rfl (fun ls hl => ?_)
        refine W.widen (k := 60 + 6 * nb + (7 * 0)) (n := 350 + 36 * nb + 7 * (7 * 0)) (by first | omega | (dsimp only; omega)) (by first | omega | (dsimp only; omega)) ?_
        refine w_loopC (σ := Int64) (np) (fun i x9 => x9 = dig2 z3 (fun p k => rt_pas ga p k) 7 i) (fun i x9 => ga) (fun i x9 => [(0, .ref (b + 141)), (1, .long (x9)), (3, .int (nI i))]) (fun i => 60 + 6 * nb + (7 * i)) (fun i => 350 + 36 * nb + 7 * (7 * i)) 0 (sm) (Nat.zero_le _) (hI.trans dig2_0.symm) ⟨rfl, rfl⟩ hW hS (lv_sub hl [1, 2, 0] rfl) ?_
        clear hW hS hl
        intro i sm H locs ls hi_i hI hW hS hl ih_i
        replace hl : lv_has ls 5 [(0, .ref (b + 141)), (1, .long sm), (3, .int (nI i))] := hl
        replace hI : sm = dig2 z3 (fun p k => rt_pas ga p k) 7 i := hI
        refine lv_iload_n hx hb dX6_digest_128 rfl (lv_at hl 2 rfl) ?_
        refine lv_aload_n hx hb dX6_digest_129 rfl (lv_at hl 0 rfl) ?_
        refine w_get hx hb hts inX6 hown hK hW (by decide) (Ent_M) rfl 2 (by decide) q_608 (fun _ h => h) rfl dX6_digest_130 ?_
        refine lv_icmp_ge (tgt := 173) hx hb dX6_digest_133 (by decide) (fun c_4 => ?_) (fun c_4 => ?_)
        · have hin := br_le hP rfl (by omega) (by omega) c_4
          obtain rfl : np = i := by omega
          refine W.widen (k := 446) (n := 3016) (by first | omega | (dsimp only; omega)) (by first | omega | (dsimp only; omega)) ?_
          refine lv_lload_n hx hb dX6_digest_173 rfl (lv_at hl 1 rfl) ?_
          refine W.widen (k := 446) (n := 3016) (by decide) (by decide) ?_
          exact W.lret (v := sm) hx hb hr (fun t9 ht9 _ => ⟨⟨sm, ga, rfl, (by subst ega; unfold r_dig; rw [← ez1, ← ez2, ← ez3]; exact ⟨hI, rfl⟩), by show wd X b _ w t9.heap; rw [ht9]; exact hW⟩, hS.F ht9⟩) hS.2.2 dX6_digest_174
        · have hlt := br_nle hP rfl (by omega) (by omega) c_4
          refine lv_iconst (v := 0) hx hb dX6_digest_136 (by decide) ?_
          refine lv_istore (lv' := [(4, .int 0), (0, .ref (b + 141)), (1, .long sm), (3, .int (nI i))]) hx hb dX6_digest_137 hl (by decide) rfl (fun ls hl => ?_)
          refine W.widen (k := 60 + 6 * nb + (7 * i + 0)) (n := 350 + 36 * nb + 7 * (7 * i + 0)) (by first | omega | (dsimp only; omega)) (by first | omega | (dsimp only; omega)) ?_
          refine w_loopC (σ := Int64) (7) (fun d x9 => x9 = dig1 (dig2 z3 (fun p k => rt_pas ga p k) 7 i) ((fun p k => rt_pas ga p k) i) d) (fun d x9 => ga) (fun d x9 => [(0, .ref (b + 141)), (1, .long (x9)), (3, .int (nI i)), (4, .int (nI d))]) (fun d => 60 + 6 * nb + (7 * i + d)) (fun d => 350 + 36 * nb + 7 * (7 * i + d)) 0 (sm) (Nat.zero_le _) (hI.trans dig1_0.symm) ⟨rfl, rfl⟩ hW hS (lv_sub hl [1, 2, 3, 0] rfl) ?_
          clear hW hS hl
          intro d sn H locs ls hi_d hI hW hS hl ih_d
          replace hl : lv_has ls 5 [(0, .ref (b + 141)), (1, .long sn), (3, .int (nI i)), (4, .int (nI d))] := hl
          replace hI : sn = dig1 (dig2 z3 (fun p k => rt_pas ga p k) 7 i) ((fun p k => rt_pas ga p k) i) d := hI
          refine lv_iload hx hb dX6_digest_139 (lv_at hl 3 rfl) ?_
          refine lv_bipush (v := 6) hx hb dX6_digest_141 (by decide) ?_
          refine lv_icmp_gt (tgt := 167) hx hb dX6_digest_143 (by decide) (fun c_5 => ?_) (fun c_5 => ?_)
          · have hin := br_lt (show (6 : Int32) = nI 6 from rfl) rfl (by omega) (by omega) c_5
            have hdn : d = 7 := by omega
            rw [hdn] at hI
            have hJ : sn = dig2 z3 (fun p k => rt_pas ga p k) 7 (i + 1) := hI.trans dig2_s.symm
            refine lv_iinc (v := nI (i + 1)) (lv' := [(3, .int (nI (i + 1))), (0, .ref (b + 141)), (1, .long sn), (4, .int (nI d))]) hx hb dX6_digest_167 hl (k := 2) rfl ((by rw [← nI_1]; rfl)) (by decide) rfl (fun ls hl => ?_)
            refine lv_goto (tgt := 128) hx hb dX6_digest_170 (by decide) ?_
            refine W.widen (k := 60 + 6 * nb + (7 * (i + 1))) (n := 350 + 36 * nb + 7 * (7 * (i + 1))) (by first | omega | (dsimp only; omega)) (by first | omega | (dsimp only; omega)) ?_
            exact ih_i hlt (sn) _ _ _ hJ hW hS (lv_sub hl [1, 2, 0] rfl)
          · have hltd : d < 7 := by have := br_nlt (show (6 : Int32) = nI 6 from rfl) rfl (by omega) (by omega) c_5; omega
            refine lv_lload_n hx hb dX6_digest_146 rfl (lv_at hl 1 rfl) ?_
            refine lv_ldc2 hx hb hown (hts _ q_794) dX6_digest_147 ?_
            refine lv_lmul hx hb dX6_digest_150 ?_
            refine lv_aload_n hx hb dX6_digest_151 rfl (lv_at hl 0 rfl) ?_
            refine lv_iload_n hx hb dX6_digest_152 rfl (lv_at hl 2 rfl) ?_
            refine lv_iload hx hb dX6_digest_153 (lv_at hl 3 rfl) ?_
            refine k_i (c_V0 ⟨hx, hb, hml, hown, hts⟩ (metX6_passengerTold l X b w ga ha1 hlt d hltd) hK hW (by decide) (Ent_M) rfl q_699 q_701 qs_7 q_6 q_702 hX6_passengerTold ⟨Nat.le_of_ble_eq_true rfl, Nat.le_of_ble_eq_true rfl, rfl, rfl⟩ rfl dX6_digest_155 rfl hl.1 (Nat.le_of_ble_eq_true rfl) ⟨show 60 + 6 * nb + (7 * i + d) + 1 ≤ 446 by omega, show 350 + 36 * nb + 7 * (7 * i + d) + 7 ≤ 3016 by omega⟩) hS (fun r_6 g_7 H locs hp hW hS => ?_)
            obtain ⟨hr_, hg_⟩ := hp
            rw [hg_] at hW
            refine lv_i2l (v := (r_6).toInt64) hx hb dX6_digest_158 rfl ?_
            refine lv_ladd hx hb dX6_digest_159 ?_
            refine lv_lstore_n (lv' := [(1, .long ((sn * 31) + ((r_6).toInt64))), (0, .ref (b + 141)), (3, .int (nI i)), (4, .int (nI d))]) hx hb dX6_digest_160 rfl hl (by decide) rfl (fun ls hl => ?_)
            refine lv_iinc (v := nI (d + 1)) (lv' := [(4, .int (nI (d + 1))), (1, .long ((sn * 31) + ((r_6).toInt64))), (0, .ref (b + 141)), (3, .int (nI i))]) hx hb dX6_digest_161 hl (k := 3) rfl ((by rw [← nI_1]; rfl)) (by decide) rfl (fun ls hl => ?_)
            refine lv_goto (tgt := 139) hx hb dX6_digest_164 (by decide) ?_
            refine W.widen (k := 60 + 6 * nb + (7 * i + (d + 1))) (n := 350 + 36 * nb + 7 * (7 * i + (d + 1))) (by first | omega | (dsimp only; omega)) (by first | omega | (dsimp only; omega)) ?_
            exact ih_d hltd ((sn * 31) + ((r_6).toInt64)) _ _ _ (by rw [dig1_s, ← hI, hr_]) hW hS (lv_sub hl [2, 1, 3, 0] rfl)
      · have hlt := br_nle hB rfl (by omega) (by omega) c_3
        refine lv_iconst (v := 0) hx hb dX6_digest_90 (by decide) ?_
        refine lv_istore (lv' := [(4, .int 0), (0, .ref (b + 141)), (1, .long sm), (3, .int (nI i))]) hx hb dX6_digest_91 hl (by decide) rfl (fun ls hl => ?_)
        refine W.widen (k := 60 + (6 * i + 0)) (n := 350 + 6 * (6 * i + 0)) (by first | omega | (dsimp only; omega)) (by first | omega | (dsimp only; omega)) ?_
        refine w_loopC (σ := Int64) (6) (fun d x9 => x9 = dig1 (dig2 z2 (fun j k => rt_bus ga j np k) 6 i) ((fun j k => rt_bus ga j np k) i) d) (fun d x9 => ga) (fun d x9 => [(0, .ref (b + 141)), (1, .long (x9)), (3, .int (nI i)), (4, .int (nI d))]) (fun d => 60 + (6 * i + d)) (fun d => 350 + 6 * (6 * i + d)) 0 (sm) (Nat.zero_le _) (hI.trans dig1_0.symm) ⟨rfl, rfl⟩ hW hS (lv_sub hl [1, 2, 3, 0] rfl) ?_
        clear hW hS hl
        intro d sn H locs ls hi_d hI hW hS hl ih_d
        replace hl : lv_has ls 5 [(0, .ref (b + 141)), (1, .long sn), (3, .int (nI i)), (4, .int (nI d))] := hl
        replace hI : sn = dig1 (dig2 z2 (fun j k => rt_bus ga j np k) 6 i) ((fun j k => rt_bus ga j np k) i) d := hI
        refine lv_iload hx hb dX6_digest_93 (lv_at hl 3 rfl) ?_
        refine lv_iconst (v := 5) hx hb dX6_digest_95 (by decide) ?_
        refine lv_icmp_gt (tgt := 120) hx hb dX6_digest_96 (by decide) (fun c_8 => ?_) (fun c_8 => ?_)
        · have hin := br_lt (show (5 : Int32) = nI 5 from rfl) rfl (by omega) (by omega) c_8
          have hdn : d = 6 := by omega
          rw [hdn] at hI
          have hJ : sn = dig2 z2 (fun j k => rt_bus ga j np k) 6 (i + 1) := hI.trans dig2_s.symm
          refine lv_iinc (v := nI (i + 1)) (lv' := [(3, .int (nI (i + 1))), (0, .ref (b + 141)), (1, .long sn), (4, .int (nI d))]) hx hb dX6_digest_120 hl (k := 2) rfl ((by rw [← nI_1]; rfl)) (by decide) rfl (fun ls hl => ?_)
          refine lv_goto (tgt := 82) hx hb dX6_digest_123 (by decide) ?_
          refine W.widen (k := 60 + (6 * (i + 1))) (n := 350 + 6 * (6 * (i + 1))) (by first | omega | (dsimp only; omega)) (by first | omega | (dsimp only; omega)) ?_
          exact ih_i hlt (sn) _ _ _ hJ hW hS (lv_sub hl [1, 2, 0] rfl)
        · have hltd : d < 6 := by have := br_nlt (show (5 : Int32) = nI 5 from rfl) rfl (by omega) (by omega) c_8; omega
          refine lv_lload_n hx hb dX6_digest_99 rfl (lv_at hl 1 rfl) ?_
          refine lv_ldc2 hx hb hown (hts _ q_794) dX6_digest_100 ?_
          refine lv_lmul hx hb dX6_digest_103 ?_
          refine lv_aload_n hx hb dX6_digest_104 rfl (lv_at hl 0 rfl) ?_
          refine lv_iload_n hx hb dX6_digest_105 rfl (lv_at hl 2 rfl) ?_
          refine lv_iload hx hb dX6_digest_106 (lv_at hl 3 rfl) ?_
          refine k_i (c_V0 ⟨hx, hb, hml, hown, hts⟩ (metX6_busTold l X b w ga ha1 hlt d hltd) hK hW (by decide) (Ent_M) rfl q_687 q_689 qs_6 q_6 q_690 hX6_busTold ⟨Nat.le_of_ble_eq_true rfl, Nat.le_of_ble_eq_true rfl, rfl, rfl⟩ rfl dX6_digest_108 rfl hl.1 (Nat.le_of_ble_eq_true rfl) ⟨show 60 + (6 * i + d) + 1 ≤ 446 by omega, show 350 + 6 * (6 * i + d) + 6 ≤ 3016 by omega⟩) hS (fun r_9 g_10 H locs hp hW hS => ?_)
          obtain ⟨hr_, hg_⟩ := hp
          rw [hg_] at hW
          refine lv_i2l (v := (r_9).toInt64) hx hb dX6_digest_111 rfl ?_
          refine lv_ladd hx hb dX6_digest_112 ?_
          refine lv_lstore_n (lv' := [(1, .long ((sn * 31) + ((r_9).toInt64))), (0, .ref (b + 141)), (3, .int (nI i)), (4, .int (nI d))]) hx hb dX6_digest_113 rfl hl (by decide) rfl (fun ls hl => ?_)
          refine lv_iinc (v := nI (d + 1)) (lv' := [(4, .int (nI (d + 1))), (1, .long ((sn * 31) + ((r_9).toInt64))), (0, .ref (b + 141)), (3, .int (nI i))]) hx hb dX6_digest_114 hl (k := 3) rfl ((by rw [← nI_1]; rfl)) (by decide) rfl (fun ls hl => ?_)
          refine lv_goto (tgt := 93) hx hb dX6_digest_117 (by decide) ?_
          refine W.widen (k := 60 + (6 * i + (d + 1))) (n := 350 + 6 * (6 * i + (d + 1))) (by first | omega | (dsimp only; omega)) (by first | omega | (dsimp only; omega)) ?_
          exact ih_d hltd ((sn * 31) + ((r_9).toInt64)) _ _ _ (by rw [dig1_s, ← hI, hr_]) hW hS (lv_sub hl [2, 1, 3, 0] rfl)
    · have hlt : i < 10 := br_nle (show (10 : Int32) = nI 10 from rfl) rfl (by omega) (by omega) c_2
      refine lv_iconst (v := 0) hx hb dX6_digest_44 (by decide) ?_
      refine lv_istore (lv' := [(4, .int 0), (0, .ref (b + 141)), (1, .long sm), (3, .int (nI i))]) hx hb dX6_digest_45 hl (by decide) rfl (fun ls hl => ?_)
      refine W.widen (k := 10 + (5 * i + 0)) (n := 100 + 5 * (5 * i + 0)) (by first | omega | (dsimp only; omega)) (by first | omega | (dsimp only; omega)) ?_
      refine w_loopC (σ := Int64) (5) (fun d x9 => x9 = dig1 (dig2 z1 (rt_stop ga nb np) 5 i) ((rt_stop ga nb np) i) d) (fun d x9 => ga) (fun d x9 => [(0, .ref (b + 141)), (1, .long (x9)), (3, .int (nI i)), (4, .int (nI d))]) (fun d => 10 + (5 * i + d)) (fun d => 100 + 5 * (5 * i + d)) 0 (sm) (Nat.zero_le _) (hI.trans dig1_0.symm) ⟨rfl, rfl⟩ hW hS (lv_sub hl [1, 2, 3, 0] rfl) ?_
      clear hW hS hl
      intro d sn H locs ls hi_d hI hW hS hl ih_d
      replace hl : lv_has ls 5 [(0, .ref (b + 141)), (1, .long sn), (3, .int (nI i)), (4, .int (nI d))] := hl
      replace hI : sn = dig1 (dig2 z1 (rt_stop ga nb np) 5 i) ((rt_stop ga nb np) i) d := hI
      refine lv_iload hx hb dX6_digest_47 (lv_at hl 3 rfl) ?_
      refine lv_iconst (v := 4) hx hb dX6_digest_49 (by decide) ?_
      refine lv_icmp_gt (tgt := 74) hx hb dX6_digest_50 (by decide) (fun c_11 => ?_) (fun c_11 => ?_)
      · have hin := br_lt (show (4 : Int32) = nI 4 from rfl) rfl (by omega) (by omega) c_11
        have hdn : d = 5 := by omega
        rw [hdn] at hI
        have hJ : sn = dig2 z1 (rt_stop ga nb np) 5 (i + 1) := hI.trans dig2_s.symm
        refine lv_iinc (v := nI (i + 1)) (lv' := [(3, .int (nI (i + 1))), (0, .ref (b + 141)), (1, .long sn), (4, .int (nI d))]) hx hb dX6_digest_74 hl (k := 2) rfl ((by rw [← nI_1]; rfl)) (by decide) rfl (fun ls hl => ?_)
        refine lv_goto (tgt := 38) hx hb dX6_digest_77 (by decide) ?_
        refine W.widen (k := 10 + (5 * (i + 1))) (n := 100 + 5 * (5 * (i + 1))) (by first | omega | (dsimp only; omega)) (by first | omega | (dsimp only; omega)) ?_
        exact ih_i hlt (sn) _ _ _ hJ hW hS (lv_sub hl [1, 2, 0] rfl)
      · have hltd : d < 5 := by have := br_nlt (show (4 : Int32) = nI 4 from rfl) rfl (by omega) (by omega) c_11; omega
        refine lv_lload_n hx hb dX6_digest_53 rfl (lv_at hl 1 rfl) ?_
        refine lv_ldc2 hx hb hown (hts _ q_794) dX6_digest_54 ?_
        refine lv_lmul hx hb dX6_digest_57 ?_
        refine lv_aload_n hx hb dX6_digest_58 rfl (lv_at hl 0 rfl) ?_
        refine lv_iload_n hx hb dX6_digest_59 rfl (lv_at hl 2 rfl) ?_
        refine lv_iload hx hb dX6_digest_60 (lv_at hl 3 rfl) ?_
        refine k_i (c_V0 ⟨hx, hb, hml, hown, hts⟩ (metX6_stopTold l X b w ga ha1 i hlt d hltd) hK hW (by decide) (Ent_M) rfl q_707 q_709 qs_8 q_6 q_710 hX6_stopTold ⟨Nat.le_of_ble_eq_true rfl, Nat.le_of_ble_eq_true rfl, rfl, rfl⟩ rfl dX6_digest_62 rfl hl.1 (Nat.le_of_ble_eq_true rfl) ⟨show 10 + (5 * i + d) + 1 ≤ 446 by omega, show 100 + 5 * (5 * i + d) + 5 ≤ 3016 by omega⟩) hS (fun r_12 g_13 H locs hp hW hS => ?_)
        obtain ⟨hr_, hg_⟩ := hp
        rw [hg_] at hW
        refine lv_i2l (v := (r_12).toInt64) hx hb dX6_digest_65 rfl ?_
        refine lv_ladd hx hb dX6_digest_66 ?_
        refine lv_lstore_n (lv' := [(1, .long ((sn * 31) + ((r_12).toInt64))), (0, .ref (b + 141)), (3, .int (nI i)), (4, .int (nI d))]) hx hb dX6_digest_67 rfl hl (by decide) rfl (fun ls hl => ?_)
        refine lv_iinc (v := nI (d + 1)) (lv' := [(4, .int (nI (d + 1))), (1, .long ((sn * 31) + ((r_12).toInt64))), (0, .ref (b + 141)), (3, .int (nI i))]) hx hb dX6_digest_68 hl (k := 3) rfl ((by rw [← nI_1]; rfl)) (by decide) rfl (fun ls hl => ?_)
        refine lv_goto (tgt := 47) hx hb dX6_digest_71 (by decide) ?_
        refine W.widen (k := 10 + (5 * i + (d + 1))) (n := 100 + 5 * (5 * i + (d + 1))) (by first | omega | (dsimp only; omega)) (by first | omega | (dsimp only; omega)) ?_
        exact ih_d hltd ((sn * 31) + ((r_12).toInt64)) _ _ _ (by rw [dig1_s, ← hI, hr_]) hW hS (lv_sub hl [2, 1, 3, 0] rfl)
  · have hlt : i < 10 := by have := br_nlt (show (9 : Int32) = nI 9 from rfl) rfl (by omega) (by omega) c_1; omega
    refine lv_lload_n hx hb dX6_digest_17 rfl (lv_at hl 1 rfl) ?_
    refine lv_ldc2 hx hb hown (hts _ q_794) dX6_digest_18 ?_
    refine lv_lmul hx hb dX6_digest_21 ?_
    refine lv_aload_n hx hb dX6_digest_22 rfl (lv_at hl 0 rfl) ?_
    refine lv_iload_n hx hb dX6_digest_23 rfl (lv_at hl 2 rfl) ?_
    refine k_i (c_V0 ⟨hx, hb, hml, hown, hts⟩ (metX6_counted l X b w ga ha1 i hlt) hK hW (by decide) (Ent_M) rfl q_715 q_717 qs_9 q_6 q_718 hX6_counted ⟨Nat.le_of_ble_eq_true rfl, Nat.le_of_ble_eq_true rfl, rfl, rfl⟩ rfl dX6_digest_24 rfl hl.1 (Nat.le_of_ble_eq_true rfl) ⟨show i + 1 ≤ 446 by omega, show 10 * i + 10 ≤ 3016 by omega⟩) hS (fun r_14 g_15 H locs hp hW hS => ?_)
    obtain ⟨hr_, hg_⟩ := hp
    rw [hg_] at hW
    refine lv_i2l (v := (r_14).toInt64) hx hb dX6_digest_27 rfl ?_
    refine lv_ladd hx hb dX6_digest_28 ?_
    refine lv_lstore_n (lv' := [(1, .long ((sm * 31) + ((r_14).toInt64))), (0, .ref (b + 141)), (3, .int (nI i))]) hx hb dX6_digest_29 rfl hl (by decide) rfl (fun ls hl => ?_)
    refine lv_iinc (v := nI (i + 1)) (lv' := [(3, .int (nI (i + 1))), (1, .long ((sm * 31) + ((r_14).toInt64))), (0, .ref (b + 141))]) hx hb dX6_digest_30 hl (k := 2) rfl ((by rw [← nI_1]; rfl)) (by decide) rfl (fun ls hl => ?_)
    refine lv_goto (tgt := 11) hx hb dX6_digest_33 (by decide) ?_
    refine W.widen (k := (i + 1)) (n := 10 * (i + 1)) (by first | omega | (dsimp only; omega)) (by first | omega | (dsimp only; omega)) ?_
    exact ih_i hlt ((sm * 31) + ((r_14).toInt64)) _ _ _ (by rw [dig1_s, ← hI, hr_]) hW hS (lv_sub hl [2, 1, 0] rfl)
