/-! NaN beside NaN -/
theorem nan_dec {n : Nat} (hn : n < 2 ^ 64) (h : 0x7ff0000000000000 < n &&& 0x7fffffffffffffff) : FP.Core.decode FP.Core.b64 n = FP.Core.Datum.nan := by
  have h63 : n &&& 0x7fffffffffffffff = n % 2 ^ 63 := Nat.and_two_pow_sub_one_eq_mod n 63
  rw [h63] at h
  unfold FP.Core.decode
  have hE : FP.Core.fieldE FP.Core.b64 n = FP.Core.Fmt.exps FP.Core.b64 - 1 := by
    show n / 2 ^ 52 % 2 ^ 11 = 2 ^ 11 - 1
    omega
  have hT : ¬ FP.Core.fieldT FP.Core.b64 n = 0 := by
    show ¬ n % 2 ^ 52 = 0
    omega
  rw [if_pos hE, if_neg hT]
theorem nan_cmp {r : UInt64} (h : isNaN64 r = true) : Op.cmpValue (FP.dcmp r r) CmpOp.l = -1 := by
  have h1 := nan_dec r.toNat_lt (isNaN64_iff.mp h)
  have h2 : FP.dcmp r r = none := by
    show FP.Core.order (FP.Core.decode FP.Core.b64 r.toNat) (FP.Core.decode FP.Core.b64 r.toNat) = none
    rw [h1]; rfl
  rw [h2]; rfl
/-- both sides' means: one number, or NaN on both sides -/
theorem mv_same {np : Nat} {s : Int32} {r r' : UInt64} (h : mv np s r) (h' : mv np s r') : r = r' ∨ (isNaN64 r = true ∧ isNaN64 r' = true) := by
  rcases h with ⟨e, rfl⟩ | ⟨e, h⟩
  · rcases h' with ⟨_, rfl⟩ | ⟨e', _⟩
    · exact Or.inl rfl
    · exact absurd e e'
  · rcases h' with ⟨e', _⟩ | ⟨_, h'⟩
    · exact absurd e' e
    · unfold alike64 at h h'
      generalize FP.ddiv (FP.i2d s) (FP.i2d (nI np)) = v at h h'
      rw [Bool.or_eq_true, decide_eq_true_iff, Bool.and_eq_true] at h h'
      rcases h with rfl | ⟨a, b⟩
      · rcases h' with rfl | ⟨a', b'⟩
        · exact Or.inl rfl
        · exact Or.inr ⟨b', a'⟩
      · rcases h' with rfl | ⟨a', b'⟩
        · exact Or.inr ⟨a, b⟩
        · exact Or.inr ⟨a, a'⟩
