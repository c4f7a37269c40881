theorem d_St_restore_12 : decode b_St_restore 12 = .ok (.invokevirtual 90, 3) := by decide +kernel
theorem d_St_restore_15 : decode b_St_restore 15 = .ok (.if_icmp .ge 42, 3) := by decide +kernel
theorem d_St_restore_18 : decode b_St_restore 18 = .ok (.aload_n 0, 1) := by decide +kernel
theorem d_St_restore_19 : decode b_St_restore 19 = .ok (.getfield 22, 3) := by decide +kernel
theorem d_St_restore_22 : decode b_St_restore 22 = .ok (.iload_n 1, 1) := by decide +kernel
theorem d_St_restore_23 : decode b_St_restore 23 = .ok (.invokevirtual 94, 3) := by decide +kernel
theorem d_St_restore_26 : decode b_St_restore 26 = .ok (.checkcast 41, 3) := by decide +kernel
theorem d_St_restore_29 : decode b_St_restore 29 = .ok (.astore_n 2, 1) := by decide +kernel
theorem d_St_restore_30 : decode b_St_restore 30 = .ok (.aload_n 2, 1) := by decide +kernel
theorem d_St_restore_31 : decode b_St_restore 31 = .ok (.aload_n 2, 1) := by decide +kernel
theorem d_St_restore_32 : decode b_St_restore 32 = .ok (.getfield 111, 3) := by decide +kernel
theorem d_St_restore_35 : decode b_St_restore 35 = .ok (.putfield 98, 3) := by decide +kernel
theorem d_St_restore_38 : decode b_St_restore 38 = .ok (.aload_n 2, 1) := by decide +kernel
theorem d_St_restore_39 : decode b_St_restore 39 = .ok (.lconst 0, 1) := by decide +kernel
theorem d_St_restore_40 : decode b_St_restore 40 = .ok (.putfield 101, 3) := by decide +kernel
theorem d_St_restore_43 : decode b_St_restore 43 = .ok (.aload_n 0, 1) := by decide +kernel
theorem d_St_restore_44 : decode b_St_restore 44 = .ok (.aload_n 2, 1) := by decide +kernel
theorem d_St_restore_45 : decode b_St_restore 45 = .ok (.getfield 105, 3) := by decide +kernel
theorem d_St_restore_48 : decode b_St_restore 48 = .ok (.putfield 77, 3) := by decide +kernel
theorem d_St_restore_51 : decode b_St_restore 51 = .ok (.iinc 1 1, 3) := by decide +kernel
theorem d_St_restore_54 : decode b_St_restore 54 = .ok (.goto (-47), 3) := by decide +kernel
theorem d_St_restore_57 : decode b_St_restore 57 = .ok (.return_, 1) := by decide +kernel
