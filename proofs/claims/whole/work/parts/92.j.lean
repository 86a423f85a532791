theorem am_ckL285_240 : am_chkL 285 am_k285_240 am_q285_240 = true := by decide +kernel
theorem am_ckL285_300 : am_chkL 285 am_k285_300 am_q285_300 = true := by decide +kernel
theorem am_ckL285_360 : am_chkL 285 am_k285_360 am_q285_360 = true := by decide +kernel
theorem am_ckL285_420 : am_chkL 285 am_k285_420 am_q285_420 = true := by decide +kernel
