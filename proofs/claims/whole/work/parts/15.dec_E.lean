theorem dd_E_init_0 : decode cd_E_init 0 = .ok (.aload_n 0, 1) := by decide +kernel
theorem dd_E_init_1 : decode cd_E_init 1 = .ok (.invokespecial 1, 3) := by decide +kernel
theorem dd_E_init_4 : decode cd_E_init 4 = .ok (.aload_n 0, 1) := by decide +kernel
theorem dd_E_init_5 : decode cd_E_init 5 = .ok (.new 7, 3) := by decide +kernel
theorem dd_E_init_8 : decode cd_E_init 8 = .ok (.dup, 1) := by decide +kernel
theorem dd_E_init_9 : decode cd_E_init 9 = .ok (.invokespecial 9, 3) := by decide +kernel
theorem dd_E_init_12 : decode cd_E_init 12 = .ok (.putfield 10, 3) := by decide +kernel
theorem dd_E_init_15 : decode cd_E_init 15 = .ok (.aload_n 0, 1) := by decide +kernel
theorem dd_E_init_16 : decode cd_E_init 16 = .ok (.iconst 4, 1) := by decide +kernel
theorem dd_E_init_17 : decode cd_E_init 17 = .ok (.newarray .long, 2) := by decide +kernel
theorem dd_E_init_19 : decode cd_E_init 19 = .ok (.putfield 18, 3) := by decide +kernel
theorem dd_E_init_22 : decode cd_E_init 22 = .ok (.aload_n 0, 1) := by decide +kernel
theorem dd_E_init_23 : decode cd_E_init 23 = .ok (.iconst 4, 1) := by decide +kernel
theorem dd_E_init_24 : decode cd_E_init 24 = .ok (.newarray .long, 2) := by decide +kernel
theorem dd_E_init_26 : decode cd_E_init 26 = .ok (.putfield 22, 3) := by decide +kernel
theorem dd_E_init_29 : decode cd_E_init 29 = .ok (.return_, 1) := by decide +kernel
