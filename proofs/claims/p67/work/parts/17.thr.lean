/-! the three exceptions that LiftScheduler throws -/
theorem thr_IO : ThrowOk "LiftScheduler" 264 268 "java/lang/IndexOutOfBoundsException" := by
  refine ⟨by decide +kernel, ?_, by decide +kernel, by decide +kernel, bw_349, bw_23, by decide +kernel⟩
  decide +kernel
theorem thr_IA : ThrowOk "LiftScheduler" 72 76 "java/lang/IllegalArgumentException" := by
  refine ⟨by decide +kernel, ?_, by decide +kernel, by decide +kernel, bw_241, bw_22, by decide +kernel⟩
  decide +kernel
theorem thr_IS : ThrowOk "LiftScheduler" 229 233 "java/lang/IllegalStateException" := by
  refine ⟨by decide +kernel, ?_, by decide +kernel, by decide +kernel, bw_469, bw_24, by decide +kernel⟩
  decide +kernel
