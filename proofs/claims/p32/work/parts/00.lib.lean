/-! a name of the library that part 78 stands on: so the claim is read over the whole library from its first part on -/
theorem lib_nn {a b : UInt32} (ha : Jvm.FP.Core.fIsNaN a = false) (hb : Jvm.FP.Core.FFin b) (hz : ¬ Jvm.FP.Core.FZero b) : Jvm.FP.Core.fIsNaN (Jvm.FP.Core.fdiv a b) = false := Jvm.FP.Core.fdiv_out ha hb hz
