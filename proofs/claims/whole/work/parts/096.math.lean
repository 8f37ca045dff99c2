/-! ===== links to Math.min, Math.max ===== -/
theorem kmmX0_68 : Cond.methodLink RX0 68 Lib.Math.min.name ∈ kwl := by decide +kernel
theorem kmmX0_99 : Cond.methodLink RX0 99 Lib.Math.max.name ∈ kwl := by decide +kernel
theorem kmmX3_66 : Cond.methodLink RX3 66 Lib.Math.min.name ∈ kwl := by decide +kernel
theorem kmmX2_61 : Cond.methodLink RX2 61 Lib.Math.min.name ∈ kwl := by decide +kernel
theorem kmmX2_67 : Cond.methodLink RX2 67 Lib.Math.max.name ∈ kwl := by decide +kernel
