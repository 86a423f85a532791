theorem am_ckL285_480 : am_chkL 285 am_k285_480 am_q285_480 = true := by decide +kernel
theorem am_ckL285_540 : am_chkL 285 am_k285_540 am_q285_540 = true := by decide +kernel
theorem am_ckL285_600 : am_chkL 285 am_k285_600 am_q285_600 = true := by decide +kernel
theorem am_ckL285_660 : am_chkL 285 am_k285_660 am_q285_660 = true := by decide +kernel
