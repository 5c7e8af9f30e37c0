/-! the three exceptions that LiftScheduler throws -/
theorem thr_IO : ThrowOk "LiftScheduler" 264 268 "java/lang/IndexOutOfBoundsException" := by
  refine ⟨by decide +kernel, ?_, by decide +kernel, by decide +kernel, bw_767, bw_18, by decide +kernel⟩
  decide +kernel
theorem thr_IA : ThrowOk "LiftScheduler" 72 76 "java/lang/IllegalArgumentException" := by
  refine ⟨by decide +kernel, ?_, by decide +kernel, by decide +kernel, bw_667, bw_15, by decide +kernel⟩
  decide +kernel
theorem thr_IS : ThrowOk "LiftScheduler" 229 233 "java/lang/IllegalStateException" := by
  refine ⟨by decide +kernel, ?_, by decide +kernel, by decide +kernel, bw_919, bw_19, by decide +kernel⟩
  decide +kernel
