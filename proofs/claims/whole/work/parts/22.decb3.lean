theorem d_Mo_ordered_21 : decode b_Mo_ordered 21 = .ok (.iload_n 1, 1) := by decide +kernel
theorem d_Mo_ordered_22 : decode b_Mo_ordered 22 = .ok (.iaload, 1) := by decide +kernel
theorem d_Mo_ordered_23 : decode b_Mo_ordered 23 = .ok (.if_icmp .lt 7, 3) := by decide +kernel
theorem d_Mo_ordered_26 : decode b_Mo_ordered 26 = .ok (.iconst (-1), 1) := by decide +kernel
theorem d_Mo_ordered_27 : decode b_Mo_ordered 27 = .ok (.goto 14, 3) := by decide +kernel
theorem d_Mo_ordered_30 : decode b_Mo_ordered 30 = .ok (.aload_n 0, 1) := by decide +kernel
theorem d_Mo_ordered_31 : decode b_Mo_ordered 31 = .ok (.getfield 42, 3) := by decide +kernel
theorem d_Mo_ordered_34 : decode b_Mo_ordered 34 = .ok (.bipush 48, 2) := by decide +kernel
theorem d_Mo_ordered_36 : decode b_Mo_ordered 36 = .ok (.iload_n 1, 1) := by decide +kernel
theorem d_Mo_ordered_37 : decode b_Mo_ordered 37 = .ok (.imul, 1) := by decide +kernel
theorem d_Mo_ordered_38 : decode b_Mo_ordered 38 = .ok (.iload_n 2, 1) := by decide +kernel
theorem d_Mo_ordered_39 : decode b_Mo_ordered 39 = .ok (.iadd, 1) := by decide +kernel
theorem d_Mo_ordered_40 : decode b_Mo_ordered 40 = .ok (.iaload, 1) := by decide +kernel
theorem d_Mo_ordered_41 : decode b_Mo_ordered 41 = .ok (.ireturn, 1) := by decide +kernel
