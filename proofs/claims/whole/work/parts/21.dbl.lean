theorem jn64 {a : UInt64} (h : Jvm.FP.Core.decode Jvm.FP.Core.b64 a.toNat ≠ .nan) : vf_n64 a := by
  unfold vf_n64
  rw [UInt64.le_iff_toNat_le, UInt64.toNat_and, show (0x7fffffffffffffff : UInt64).toNat = 2 ^ 63 - 1 from rfl, Nat.and_two_pow_sub_one_eq_mod, show (0x7ff0000000000000 : UInt64).toNat = 9218868437227405312 from rfl]
  apply Decidable.byContradiction
  intro q
  apply h
  unfold Jvm.FP.Core.decode
  have hE : Jvm.FP.Core.fieldE Jvm.FP.Core.b64 a.toNat = Jvm.FP.Core.Fmt.exps Jvm.FP.Core.b64 - 1 := by
    show a.toNat / 4503599627370496 % 2048 = 2047
    omega
  have hT : ¬ Jvm.FP.Core.fieldT Jvm.FP.Core.b64 a.toNat = 0 := by
    show ¬ a.toNat % 4503599627370496 = 0
    have : a.toNat / 4503599627370496 % 2048 = 2047 := hE
    omega
  rw [if_pos hE, if_neg hT]
