set_option maxHeartbeats 1000000 in
set_option maxRecDepth 100000 in
theorem metX4_digest (l : Launch) (X : CX) (b : Nat) (w : Int64) (g : S2) {nb np : Nat} (h : OkL 1 nb np g) : Met l yX4_digest (wsg yX4_digest cX4_digest 5 (some .long)) ({ frames := 3, cells := 0, slots := 0, locals := 66 }) (Pre X b g w [.ref (b + 0)]) (QRL (f_dig g nb np)) 0 0 NO := by
  refine Met.ofW (cc := cX4_digest) (maxL := 5) (ret := (some .long)) (by decide) rfl ?_
  intro p e s m args below meth c s₁ Bo hml hv
  obtain ⟨rfl, hW, hK⟩ := hv
  have hx := Bo.exec
  have hb := Bo.bytes
  have hr := Bo.returns
  have hts := hts_of (atoms_spec (ws := wsg yX4_digest cX4_digest 5 (some .long)) Bo.pre)
  have hown : s.vm.findClass RX4 = some m.cls := findClass_of_methodNamed Bo.named
  have hlocks := Bo.notSynchronized
  have hl := lv_entry ([.ref (b + 0)]) (n := 5) (Nat.le_of_ble_eq_true rfl)
  rw [lg_entry_eq]
  generalize (lg_sl ([.ref (b + 0)]) ++ List.replicate (5 - (lg_sl ([.ref (b + 0)])).length) Slot.unset).toArray = ls at hl ⊢
  have hl : lv_has ls 5 [(0, .ref (b + 0))] := hl
  obtain ⟨⟨h3, hnb⟩, ⟨h4, hnp⟩, hnum, hbus, hpas⟩ := id h
  refine lv_ldc2 hx hb hown (hts _ q_309) dX4_digest_0 ?_
  refine lv_lstore_n (lv' := [(1, .long 1039), (0, .ref (b + 0))]) hx hb dX4_digest_3 rfl hl (by decide) rfl (fun ls hl => ?_)
  refine lv_iconst (v := 0) hx hb dX4_digest_4 (by decide) ?_
  refine lv_istore_n (lv' := [(3, .int 0), (1, .long 1039), (0, .ref (b + 0))]) hx hb dX4_digest_5 rfl hl (by decide) rfl (fun ls hl => ?_)
  refine w_loopR (σ := Int64) (10) (fun i x9 => x9 = dig1 1039 (f_tellC g 1 nb np) i) (fun i x9 => [(0, .ref (b + 0)), (1, .long (x9)), (3, .int (nI i))]) 0 (1039) (Nat.zero_le _) dig1_0.symm (lv_sub hl [2, 1, 0] rfl) ?_
  clear hl
  intro i sm ls hi_i hI hl ih_i
  replace hl : lv_has ls 5 [(0, .ref (b + 0)), (1, .long sm), (3, .int (nI i))] := hl
  replace hI : sm = dig1 1039 (f_tellC g 1 nb np) i := hI
  refine lv_iload_n hx hb dX4_digest_6 rfl (lv_at hl 2 rfl) ?_
  refine lv_bipush (v := 10) hx hb dX4_digest_7 (by decide) ?_
  refine lv_icmp_ge (tgt := 34) hx hb dX4_digest_9 (by decide) (fun c_1 => ?_) (fun c_1 => ?_)
  · have hin := br_le (show (10 : Int32) = nI 10 from rfl) rfl (by omega) (by omega) c_1
    obtain rfl : 10 = i := by omega
    obtain ⟨z1, ez1⟩ : ∃ z, z = dig1 1039 (f_tellC g 1 nb np) 10 := ⟨_, rfl⟩
    rw [← ez1] at hI
    refine lv_iconst (v := 0) hx hb dX4_digest_34 (by decide) ?_
    refine lv_istore_n (lv' := [(3, .int 0), (0, .ref (b + 0)), (1, .long sm)]) hx hb dX4_digest_35 rfl hl (by decide) rfl (fun ls hl => ?_)
    refine w_loopR (σ := Int64) (10) (fun i x9 => x9 = dig2 z1 (f_tellS g 1 nb np) 5 i) (fun i x9 => [(0, .ref (b + 0)), (1, .long (x9)), (3, .int (nI i))]) 0 (sm) (Nat.zero_le _) (hI.trans dig2_0.symm) (lv_sub hl [1, 2, 0] rfl) ?_
    clear hl
    intro i sm ls hi_i hI hl ih_i
    replace hl : lv_has ls 5 [(0, .ref (b + 0)), (1, .long sm), (3, .int (nI i))] := hl
    replace hI : sm = dig2 z1 (f_tellS g 1 nb np) 5 i := hI
    refine lv_iload_n hx hb dX4_digest_36 rfl (lv_at hl 2 rfl) ?_
    refine lv_bipush (v := 10) hx hb dX4_digest_37 (by decide) ?_
    refine lv_icmp_ge (tgt := 81) hx hb dX4_digest_39 (by decide) (fun c_2 => ?_) (fun c_2 => ?_)
    · have hin := br_le (show (10 : Int32) = nI 10 from rfl) rfl (by omega) (by omega) c_2
      obtain rfl : 10 = i := by omega
      obtain ⟨z2, ez2⟩ : ∃ z, z = dig2 z1 (f_tellS g 1 nb np) 5 10 := ⟨_, rfl⟩
      rw [← ez2] at hI
      refine lv_iconst (v := 0) hx hb dX4_digest_81 (by decide) ?_
      refine lv_istore_n (lv' := [(3, .int 0), (0, .ref (b + 0)), (1, .long sm)]) hx hb dX4_digest_82 rfl hl (by decide) rfl (fun ls hl => ?_)
      refine w_loopR (σ := Int64) (nb) (fun i x9 => x9 = dig2 z2 (fun j k => g (1 + 14 + j) (k + 1)) 6 i) (fun i x9 => [(0, .ref (b + 0)), (1, .long (x9)), (3, .int (nI i))]) 0 (sm) (Nat.zero_le _) (hI.trans dig2_0.symm) (lv_sub hl [1, 2, 0] rfl) ?_
      clear hl
      intro i sm ls hi_i hI hl ih_i
      replace hl : lv_has ls 5 [(0, .ref (b + 0)), (1, .long sm), (3, .int (nI i))] := hl
      replace hI : sm = dig2 z2 (fun j k => g (1 + 14 + j) (k + 1)) 6 i := hI
      refine lv_iload_n hx hb dX4_digest_83 rfl (lv_at hl 2 rfl) ?_
      refine lv_aload_n hx hb dX4_digest_84 rfl (lv_at hl 0 rfl) ?_
      refine w_get hx hb hts inX4 hown hK hW (by decide) (Ent_0) rfl 0 (by decide) q_460 (fun _ h => h) rfl dX4_digest_85 ?_
      refine w_get hx hb hts inX1 hown hK hW (ltL (Or.inl rfl)) (Ent_L (Or.inl rfl)) rfl 3 (by decide) q_438 (fun _ h => h) rfl dX4_digest_88 ?_
      refine lv_icmp_ge (tgt := 138) hx hb dX4_digest_91 (by decide) (fun c_3 => ?_) (fun c_3 => ?_)
      · have hin := br_le h3 rfl (by omega) (by omega) c_3
        obtain rfl : nb = i := by omega
        obtain ⟨z3, ez3⟩ : ∃ z, z = dig2 z2 (fun j k => g (1 + 14 + j) (k + 1)) 6 nb := ⟨_, rfl⟩
        rw [← ez3] at hI
        refine lv_iconst (v := 0) hx hb dX4_digest_138 (by decide) ?_
        refine lv_istore_n (lv' := [(3, .int 0), (0, .ref (b + 0)), (1, .long sm)]) hx hb dX4_digest_139 rfl hl (by decide) rfl (fun ls hl => ?_)
        refine w_loopR (σ := Int64) (np) (fun i x9 => x9 = dig2 z3 (fun p k => g (1 + 20 + p) (k + 0)) 7 i) (fun i x9 => [(0, .ref (b + 0)), (1, .long (x9)), (3, .int (nI i))]) 0 (sm) (Nat.zero_le _) (hI.trans dig2_0.symm) (lv_sub hl [1, 2, 0] rfl) ?_
        clear hl
        intro i sm ls hi_i hI hl ih_i
        replace hl : lv_has ls 5 [(0, .ref (b + 0)), (1, .long sm), (3, .int (nI i))] := hl
        replace hI : sm = dig2 z3 (fun p k => g (1 + 20 + p) (k + 0)) 7 i := hI
        refine lv_iload_n hx hb dX4_digest_140 rfl (lv_at hl 2 rfl) ?_
        refine lv_aload_n hx hb dX4_digest_141 rfl (lv_at hl 0 rfl) ?_
        refine w_get hx hb hts inX4 hown hK hW (by decide) (Ent_0) rfl 0 (by decide) q_460 (fun _ h => h) rfl dX4_digest_142 ?_
        refine w_get hx hb hts inX1 hown hK hW (ltL (Or.inl rfl)) (Ent_L (Or.inl rfl)) rfl 4 (by decide) q_440 (fun _ h => h) rfl dX4_digest_145 ?_
        refine lv_icmp_ge (tgt := 195) hx hb dX4_digest_148 (by decide) (fun c_4 => ?_) (fun c_4 => ?_)
        · have hin := br_le h4 rfl (by omega) (by omega) c_4
          obtain rfl : np = i := by omega
          refine lv_lload_n hx hb dX4_digest_195 rfl (lv_at hl 1 rfl) ?_
          exact W.lret (v := sm) hx hb hr (fun t9 ht9 _ => ⟨congrArg (fun z => Outcome.returned (some (Value.long z))) (by unfold f_dig; rw [← ez1, ← ez2, ← ez3]; exact hI), ht9⟩) (fun q hq => absurd hq List.not_mem_nil) dX4_digest_196
        · have hlt := br_nle h4 rfl (by omega) (by omega) c_4
          refine lv_iconst (v := 0) hx hb dX4_digest_151 (by decide) ?_
          refine lv_istore (lv' := [(4, .int 0), (0, .ref (b + 0)), (1, .long sm), (3, .int (nI i))]) hx hb dX4_digest_152 hl (by decide) rfl (fun ls hl => ?_)
          refine w_loopR (σ := Int64) (7) (fun d x9 => x9 = dig1 (dig2 z3 (fun p k => g (1 + 20 + p) (k + 0)) 7 i) ((fun p k => g (1 + 20 + p) (k + 0)) i) d) (fun d x9 => [(0, .ref (b + 0)), (1, .long (x9)), (3, .int (nI i)), (4, .int (nI d))]) 0 (sm) (Nat.zero_le _) (hI.trans dig1_0.symm) (lv_sub hl [1, 2, 3, 0] rfl) ?_
          clear hl
          intro d sn ls hi_d hI hl ih_d
          replace hl : lv_has ls 5 [(0, .ref (b + 0)), (1, .long sn), (3, .int (nI i)), (4, .int (nI d))] := hl
          replace hI : sn = dig1 (dig2 z3 (fun p k => g (1 + 20 + p) (k + 0)) 7 i) ((fun p k => g (1 + 20 + p) (k + 0)) i) d := hI
          refine lv_iload hx hb dX4_digest_154 (lv_at hl 3 rfl) ?_
          refine lv_bipush (v := 7) hx hb dX4_digest_156 (by decide) ?_
          refine lv_icmp_ge (tgt := 189) hx hb dX4_digest_158 (by decide) (fun c_5 => ?_) (fun c_5 => ?_)
          · have hin := br_le (show (7 : Int32) = nI 7 from rfl) rfl (by omega) (by omega) c_5
            rw [show d = 7 by omega] at hI
            have hJ : sn = dig2 z3 (fun p k => g (1 + 20 + p) (k + 0)) 7 (i + 1) := hI.trans dig2_s.symm
            refine lv_iinc (v := nI (i + 1)) (lv' := [(3, .int (nI (i + 1))), (0, .ref (b + 0)), (1, .long sn), (4, .int (nI d))]) hx hb dX4_digest_189 hl (k := 2) rfl ((by rw [← nI_1]; rfl)) (by decide) rfl (fun ls hl => ?_)
            refine lv_goto (tgt := 140) hx hb dX4_digest_192 (by decide) ?_
            exact ih_i hlt (sn) _ hJ (lv_sub hl [1, 2, 0] rfl)
          · have hltd : d < 7 := br_nle (show (7 : Int32) = nI 7 from rfl) rfl (by omega) (by omega) c_5
            refine lv_lload_n hx hb dX4_digest_161 rfl (lv_at hl 1 rfl) ?_
            refine lv_ldc2 hx hb hown (hts _ q_310) dX4_digest_162 ?_
            refine lv_lmul hx hb dX4_digest_165 ?_
            refine lv_aload_n hx hb dX4_digest_166 rfl (lv_at hl 0 rfl) ?_
            refine w_get hx hb hts inX4 hown hK hW (by decide) (Ent_0) rfl 0 (by decide) q_460 (fun _ h => h) rfl dX4_digest_167 ?_
            refine w_get hx hb hts inX1 hown hK hW (ltL (Or.inl rfl)) (Ent_L (Or.inl rfl)) rfl 2 (by decide) q_436 (fun _ h => h) rfl dX4_digest_170 ?_
            refine lv_iload_n hx hb dX4_digest_173 rfl (lv_at hl 2 rfl) ?_
            refine w_aldP hx hb hK hW (Or.inl rfl) i rfl (by omega) dX4_digest_174 ?_
            refine lv_iload hx hb dX4_digest_175 (lv_at hl 3 rfl) ?_
            refine k_R (c_V0 ⟨hx, hb, hml, hown, hts⟩ (metX2_tell l X b w g (isP_of (Or.inl rfl) (by omega)) d hltd) hK hW (ltP (isP_of (Or.inl rfl) (by omega))) (Ent_P (isP_of (Or.inl rfl) (by omega))) rfl q_171 q_172 q_173 q_5 q_174 hX2_tell ⟨Nat.le_of_ble_eq_true rfl, Nat.le_of_ble_eq_true rfl, rfl, rfl⟩ rfl dX4_digest_177 rfl hl.1 (Nat.le_of_ble_eq_true rfl) ⟨Nat.le_of_ble_eq_true rfl, Nat.le_of_ble_eq_true rfl⟩) ?_
            refine lv_i2l (v := (g (1 + 20 + i) (d + 0)).toInt64) hx hb dX4_digest_180 rfl ?_
            refine lv_ladd hx hb dX4_digest_181 ?_
            refine lv_lstore_n (lv' := [(1, .long ((sn * 31) + ((g (1 + 20 + i) (d + 0)).toInt64))), (0, .ref (b + 0)), (3, .int (nI i)), (4, .int (nI d))]) hx hb dX4_digest_182 rfl hl (by decide) rfl (fun ls hl => ?_)
            refine lv_iinc (v := nI (d + 1)) (lv' := [(4, .int (nI (d + 1))), (1, .long ((sn * 31) + ((g (1 + 20 + i) (d + 0)).toInt64))), (0, .ref (b + 0)), (3, .int (nI i))]) hx hb dX4_digest_183 hl (k := 3) rfl ((by rw [← nI_1]; rfl)) (by decide) rfl (fun ls hl => ?_)
            refine lv_goto (tgt := 154) hx hb dX4_digest_186 (by decide) ?_
            exact ih_d hltd ((sn * 31) + ((g (1 + 20 + i) (d + 0)).toInt64)) _ (by rw [dig1_s, ← hI]) (lv_sub hl [2, 1, 3, 0] rfl)
      · have hlt := br_nle h3 rfl (by omega) (by omega) c_3
        refine lv_iconst (v := 0) hx hb dX4_digest_94 (by decide) ?_
        refine lv_istore (lv' := [(4, .int 0), (0, .ref (b + 0)), (1, .long sm), (3, .int (nI i))]) hx hb dX4_digest_95 hl (by decide) rfl (fun ls hl => ?_)
        refine w_loopR (σ := Int64) (6) (fun d x9 => x9 = dig1 (dig2 z2 (fun j k => g (1 + 14 + j) (k + 1)) 6 i) ((fun j k => g (1 + 14 + j) (k + 1)) i) d) (fun d x9 => [(0, .ref (b + 0)), (1, .long (x9)), (3, .int (nI i)), (4, .int (nI d))]) 0 (sm) (Nat.zero_le _) (hI.trans dig1_0.symm) (lv_sub hl [1, 2, 3, 0] rfl) ?_
        clear hl
        intro d sn ls hi_d hI hl ih_d
        replace hl : lv_has ls 5 [(0, .ref (b + 0)), (1, .long sn), (3, .int (nI i)), (4, .int (nI d))] := hl
        replace hI : sn = dig1 (dig2 z2 (fun j k => g (1 + 14 + j) (k + 1)) 6 i) ((fun j k => g (1 + 14 + j) (k + 1)) i) d := hI
        refine lv_iload hx hb dX4_digest_97 (lv_at hl 3 rfl) ?_
        refine lv_bipush (v := 6) hx hb dX4_digest_99 (by decide) ?_
        refine lv_icmp_ge (tgt := 132) hx hb dX4_digest_101 (by decide) (fun c_6 => ?_) (fun c_6 => ?_)
        · have hin := br_le (show (6 : Int32) = nI 6 from rfl) rfl (by omega) (by omega) c_6
          rw [show d = 6 by omega] at hI
          have hJ : sn = dig2 z2 (fun j k => g (1 + 14 + j) (k + 1)) 6 (i + 1) := hI.trans dig2_s.symm
          refine lv_iinc (v := nI (i + 1)) (lv' := [(3, .int (nI (i + 1))), (0, .ref (b + 0)), (1, .long sn), (4, .int (nI d))]) hx hb dX4_digest_132 hl (k := 2) rfl ((by rw [← nI_1]; rfl)) (by decide) rfl (fun ls hl => ?_)
          refine lv_goto (tgt := 83) hx hb dX4_digest_135 (by decide) ?_
          exact ih_i hlt (sn) _ hJ (lv_sub hl [1, 2, 0] rfl)
        · have hltd : d < 6 := br_nle (show (6 : Int32) = nI 6 from rfl) rfl (by omega) (by omega) c_6
          refine lv_lload_n hx hb dX4_digest_104 rfl (lv_at hl 1 rfl) ?_
          refine lv_ldc2 hx hb hown (hts _ q_310) dX4_digest_105 ?_
          refine lv_lmul hx hb dX4_digest_108 ?_
          refine lv_aload_n hx hb dX4_digest_109 rfl (lv_at hl 0 rfl) ?_
          refine w_get hx hb hts inX4 hown hK hW (by decide) (Ent_0) rfl 0 (by decide) q_460 (fun _ h => h) rfl dX4_digest_110 ?_
          refine w_get hx hb hts inX1 hown hK hW (ltL (Or.inl rfl)) (Ent_L (Or.inl rfl)) rfl 1 (by decide) q_434 (fun _ h => h) rfl dX4_digest_113 ?_
          refine lv_iload_n hx hb dX4_digest_116 rfl (lv_at hl 2 rfl) ?_
          refine w_aldB hx hb hK hW (Or.inl rfl) i rfl (by omega) dX4_digest_117 ?_
          refine lv_iload hx hb dX4_digest_118 (lv_at hl 3 rfl) ?_
          refine k_R (c_V0 ⟨hx, hb, hml, hown, hts⟩ (metX0_tell l X b w g (isB_of (Or.inl rfl) (by omega)) (hbus i hlt).2 d hltd) hK hW (ltB (isB_of (Or.inl rfl) (by omega))) (Ent_B (isB_of (Or.inl rfl) (by omega))) rfl q_157 q_158 q_159 q_4 q_160 hX0_tell ⟨Nat.le_of_ble_eq_true rfl, Nat.le_of_ble_eq_true rfl, rfl, rfl⟩ rfl dX4_digest_120 rfl hl.1 (Nat.le_of_ble_eq_true rfl) ⟨Nat.le_of_ble_eq_true rfl, Nat.le_of_ble_eq_true rfl⟩) ?_
          refine lv_i2l (v := (g (1 + 14 + i) (d + 1)).toInt64) hx hb dX4_digest_123 rfl ?_
          refine lv_ladd hx hb dX4_digest_124 ?_
          refine lv_lstore_n (lv' := [(1, .long ((sn * 31) + ((g (1 + 14 + i) (d + 1)).toInt64))), (0, .ref (b + 0)), (3, .int (nI i)), (4, .int (nI d))]) hx hb dX4_digest_125 rfl hl (by decide) rfl (fun ls hl => ?_)
          refine lv_iinc (v := nI (d + 1)) (lv' := [(4, .int (nI (d + 1))), (1, .long ((sn * 31) + ((g (1 + 14 + i) (d + 1)).toInt64))), (0, .ref (b + 0)), (3, .int (nI i))]) hx hb dX4_digest_126 hl (k := 3) rfl ((by rw [← nI_1]; rfl)) (by decide) rfl (fun ls hl => ?_)
          refine lv_goto (tgt := 97) hx hb dX4_digest_129 (by decide) ?_
          exact ih_d hltd ((sn * 31) + ((g (1 + 14 + i) (d + 1)).toInt64)) _ (by rw [dig1_s, ← hI]) (lv_sub hl [2, 1, 3, 0] rfl)
    · have hlt : i < 10 := br_nle (show (10 : Int32) = nI 10 from rfl) rfl (by omega) (by omega) c_2
      refine lv_iconst (v := 0) hx hb dX4_digest_42 (by decide) ?_
      refine lv_istore (lv' := [(4, .int 0), (0, .ref (b + 0)), (1, .long sm), (3, .int (nI i))]) hx hb dX4_digest_43 hl (by decide) rfl (fun ls hl => ?_)
      refine w_loopR (σ := Int64) (5) (fun d x9 => x9 = dig1 (dig2 z1 (f_tellS g 1 nb np) 5 i) ((f_tellS g 1 nb np) i) d) (fun d x9 => [(0, .ref (b + 0)), (1, .long (x9)), (3, .int (nI i)), (4, .int (nI d))]) 0 (sm) (Nat.zero_le _) (hI.trans dig1_0.symm) (lv_sub hl [1, 2, 3, 0] rfl) ?_
      clear hl
      intro d sn ls hi_d hI hl ih_d
      replace hl : lv_has ls 5 [(0, .ref (b + 0)), (1, .long sn), (3, .int (nI i)), (4, .int (nI d))] := hl
      replace hI : sn = dig1 (dig2 z1 (f_tellS g 1 nb np) 5 i) ((f_tellS g 1 nb np) i) d := hI
      refine lv_iload hx hb dX4_digest_45 (lv_at hl 3 rfl) ?_
      refine lv_iconst (v := 5) hx hb dX4_digest_47 (by decide) ?_
      refine lv_icmp_ge (tgt := 75) hx hb dX4_digest_48 (by decide) (fun c_7 => ?_) (fun c_7 => ?_)
      · have hin := br_le (show (5 : Int32) = nI 5 from rfl) rfl (by omega) (by omega) c_7
        rw [show d = 5 by omega] at hI
        have hJ : sn = dig2 z1 (f_tellS g 1 nb np) 5 (i + 1) := hI.trans dig2_s.symm
        refine lv_iinc (v := nI (i + 1)) (lv' := [(3, .int (nI (i + 1))), (0, .ref (b + 0)), (1, .long sn), (4, .int (nI d))]) hx hb dX4_digest_75 hl (k := 2) rfl ((by rw [← nI_1]; rfl)) (by decide) rfl (fun ls hl => ?_)
        refine lv_goto (tgt := 36) hx hb dX4_digest_78 (by decide) ?_
        exact ih_i hlt (sn) _ hJ (lv_sub hl [1, 2, 0] rfl)
      · have hltd : d < 5 := br_nle (show (5 : Int32) = nI 5 from rfl) rfl (by omega) (by omega) c_7
        refine lv_lload_n hx hb dX4_digest_51 rfl (lv_at hl 1 rfl) ?_
        refine lv_ldc2 hx hb hown (hts _ q_310) dX4_digest_52 ?_
        refine lv_lmul hx hb dX4_digest_55 ?_
        refine lv_aload_n hx hb dX4_digest_56 rfl (lv_at hl 0 rfl) ?_
        refine w_get hx hb hts inX4 hown hK hW (by decide) (Ent_0) rfl 0 (by decide) q_460 (fun _ h => h) rfl dX4_digest_57 ?_
        refine lv_iload_n hx hb dX4_digest_60 rfl (lv_at hl 2 rfl) ?_
        refine lv_iload hx hb dX4_digest_61 (lv_at hl 3 rfl) ?_
        refine k_R (c_V0 ⟨hx, hb, hml, hown, hts⟩ (metX1_tellStop l X b w g (o := 1) (Or.inl rfl) h i hlt d hltd) hK hW (ltL (Or.inl rfl)) (Ent_L (Or.inl rfl)) rfl q_180 q_181 q_182 q_2 q_183 hX1_tellStop ⟨Nat.le_of_ble_eq_true rfl, Nat.le_of_ble_eq_true rfl, rfl, rfl⟩ rfl dX4_digest_63 rfl hl.1 (Nat.le_of_ble_eq_true rfl) ⟨Nat.le_of_ble_eq_true rfl, Nat.le_of_ble_eq_true rfl⟩) ?_
        refine lv_i2l (v := (f_tellS g 1 nb np i d).toInt64) hx hb dX4_digest_66 rfl ?_
        refine lv_ladd hx hb dX4_digest_67 ?_
        refine lv_lstore_n (lv' := [(1, .long ((sn * 31) + ((f_tellS g 1 nb np i d).toInt64))), (0, .ref (b + 0)), (3, .int (nI i)), (4, .int (nI d))]) hx hb dX4_digest_68 rfl hl (by decide) rfl (fun ls hl => ?_)
        refine lv_iinc (v := nI (d + 1)) (lv' := [(4, .int (nI (d + 1))), (1, .long ((sn * 31) + ((f_tellS g 1 nb np i d).toInt64))), (0, .ref (b + 0)), (3, .int (nI i))]) hx hb dX4_digest_69 hl (k := 3) rfl ((by rw [← nI_1]; rfl)) (by decide) rfl (fun ls hl => ?_)
        refine lv_goto (tgt := 45) hx hb dX4_digest_72 (by decide) ?_
        exact ih_d hltd ((sn * 31) + ((f_tellS g 1 nb np i d).toInt64)) _ (by rw [dig1_s, ← hI]) (lv_sub hl [2, 1, 3, 0] rfl)
  · have hlt : i < 10 := br_nle (show (10 : Int32) = nI 10 from rfl) rfl (by omega) (by omega) c_1
    refine lv_lload_n hx hb dX4_digest_12 rfl (lv_at hl 1 rfl) ?_
    refine lv_ldc2 hx hb hown (hts _ q_310) dX4_digest_13 ?_
    refine lv_lmul hx hb dX4_digest_16 ?_
    refine lv_aload_n hx hb dX4_digest_17 rfl (lv_at hl 0 rfl) ?_
    refine w_get hx hb hts inX4 hown hK hW (by decide) (Ent_0) rfl 0 (by decide) q_460 (fun _ h => h) rfl dX4_digest_18 ?_
    refine lv_iload_n hx hb dX4_digest_21 rfl (lv_at hl 2 rfl) ?_
    refine k_R (c_V0 ⟨hx, hb, hml, hown, hts⟩ (metX1_tellCount l X b w g (o := 1) (Or.inl rfl) h i hlt) hK hW (ltL (Or.inl rfl)) (Ent_L (Or.inl rfl)) rfl q_201 q_202 q_203 q_2 q_204 hX1_tellCount ⟨Nat.le_of_ble_eq_true rfl, Nat.le_of_ble_eq_true rfl, rfl, rfl⟩ rfl dX4_digest_22 rfl hl.1 (Nat.le_of_ble_eq_true rfl) ⟨Nat.le_of_ble_eq_true rfl, Nat.le_of_ble_eq_true rfl⟩) ?_
    refine lv_i2l (v := (f_tellC g 1 nb np i).toInt64) hx hb dX4_digest_25 rfl ?_
    refine lv_ladd hx hb dX4_digest_26 ?_
    refine lv_lstore_n (lv' := [(1, .long ((sm * 31) + ((f_tellC g 1 nb np i).toInt64))), (0, .ref (b + 0)), (3, .int (nI i))]) hx hb dX4_digest_27 rfl hl (by decide) rfl (fun ls hl => ?_)
    refine lv_iinc (v := nI (i + 1)) (lv' := [(3, .int (nI (i + 1))), (1, .long ((sm * 31) + ((f_tellC g 1 nb np i).toInt64))), (0, .ref (b + 0))]) hx hb dX4_digest_28 hl (k := 2) rfl ((by rw [← nI_1]; rfl)) (by decide) rfl (fun ls hl => ?_)
    refine lv_goto (tgt := 6) hx hb dX4_digest_31 (by decide) ?_
    exact ih_i hlt ((sm * 31) + ((f_tellC g 1 nb np i).toInt64)) _ (by rw [dig1_s, ← hI]) (lv_sub hl [2, 1, 0] rfl)
