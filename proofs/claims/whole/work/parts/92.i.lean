theorem am_ckL285_0 : am_chkL 285 am_k285_0 am_q285_0 = true := by decide +kernel
theorem am_ckL285_60 : am_chkL 285 am_k285_60 am_q285_60 = true := by decide +kernel
theorem am_ckL285_120 : am_chkL 285 am_k285_120 am_q285_120 = true := by decide +kernel
theorem am_ckL285_180 : am_chkL 285 am_k285_180 am_q285_180 = true := by decide +kernel
