theorem d_Mod_told_106 : decode b_Mod_told 106 = .ok (.if_icmp .ge 28, 3) := by decide +kernel
theorem d_Mod_told_109 : decode b_Mod_told 109 = .ok (.iload_n 2, 1) := by decide +kernel
theorem d_Mod_told_110 : decode b_Mod_told 110 = .ok (.aload_n 0, 1) := by decide +kernel
theorem d_Mod_told_111 : decode b_Mod_told 111 = .ok (.getfield 7, 3) := by decide +kernel
theorem d_Mod_told_114 : decode b_Mod_told 114 = .ok (.iload_n 3, 1) := by decide +kernel
theorem d_Mod_told_115 : decode b_Mod_told 115 = .ok (.laload, 1) := by decide +kernel
theorem d_Mod_told_116 : decode b_Mod_told 116 = .ok (.lconst 0, 1) := by decide +kernel
theorem d_Mod_told_117 : decode b_Mod_told 117 = .ok (.lcmp, 1) := by decide +kernel
theorem d_Mod_told_118 : decode b_Mod_told 118 = .ok (.ifCond .eq 7, 3) := by decide +kernel
theorem d_Mod_told_121 : decode b_Mod_told 121 = .ok (.iconst 1, 1) := by decide +kernel
theorem d_Mod_told_122 : decode b_Mod_told 122 = .ok (.goto 4, 3) := by decide +kernel
theorem d_Mod_told_125 : decode b_Mod_told 125 = .ok (.iconst 0, 1) := by decide +kernel
theorem d_Mod_told_126 : decode b_Mod_told 126 = .ok (.iadd, 1) := by decide +kernel
theorem d_Mod_told_127 : decode b_Mod_told 127 = .ok (.istore_n 2, 1) := by decide +kernel
theorem d_Mod_told_128 : decode b_Mod_told 128 = .ok (.iinc 3 1, 3) := by decide +kernel
theorem d_Mod_told_131 : decode b_Mod_told 131 = .ok (.goto (-29), 3) := by decide +kernel
theorem d_Mod_told_134 : decode b_Mod_told 134 = .ok (.iload_n 2, 1) := by decide +kernel
theorem d_Mod_told_135 : decode b_Mod_told 135 = .ok (.ireturn, 1) := by decide +kernel
theorem d_Mod_told_136 : decode b_Mod_told 136 = .ok (.bipush (-2), 2) := by decide +kernel
theorem d_Mod_told_138 : decode b_Mod_told 138 = .ok (.ireturn, 1) := by decide +kernel
