theorem am_ckL285_720 : am_chkL 285 am_k285_720 am_q285_720 = true := by decide +kernel
theorem am_ckL285_780 : am_chkL 285 am_k285_780 am_q285_780 = true := by decide +kernel
theorem am_ckL285_840 : am_chkL 285 am_k285_840 am_q285_840 = true := by decide +kernel
theorem am_ckL285_900 : am_chkL 285 am_k285_900 am_q285_900 = true := by decide +kernel
