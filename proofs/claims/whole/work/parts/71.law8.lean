theorem d_L_law_1189 : decode b_L_law 1189 = .ok (.if_icmp .eq 5, 3) := by decide +kernel
theorem d_L_law_1192 : decode b_L_law 1192 = .ok (.iconst 0, 1) := by decide +kernel
theorem d_L_law_1193 : decode b_L_law 1193 = .ok (.ireturn, 1) := by decide +kernel
theorem d_L_law_1194 : decode b_L_law 1194 = .ok (.iload 5, 2) := by decide +kernel
theorem d_L_law_1196 : decode b_L_law 1196 = .ok (.ifCond .ne 15, 3) := by decide +kernel
theorem d_L_law_1199 : decode b_L_law 1199 = .ok (.aload_n 3, 1) := by decide +kernel
theorem d_L_law_1200 : decode b_L_law 1200 = .ok (.iconst 0, 1) := by decide +kernel
theorem d_L_law_1201 : decode b_L_law 1201 = .ok (.laload, 1) := by decide +kernel
theorem d_L_law_1202 : decode b_L_law 1202 = .ok (.iload 6, 2) := by decide +kernel
theorem d_L_law_1204 : decode b_L_law 1204 = .ok (.i2l, 1) := by decide +kernel
theorem d_L_law_1205 : decode b_L_law 1205 = .ok (.lcmp, 1) := by decide +kernel
theorem d_L_law_1206 : decode b_L_law 1206 = .ok (.ifCond .eq 5, 3) := by decide +kernel
theorem d_L_law_1209 : decode b_L_law 1209 = .ok (.iconst 0, 1) := by decide +kernel
theorem d_L_law_1210 : decode b_L_law 1210 = .ok (.ireturn, 1) := by decide +kernel
theorem d_L_law_1211 : decode b_L_law 1211 = .ok (.goto 28, 3) := by decide +kernel
theorem d_L_law_1214 : decode b_L_law 1214 = .ok (.aload_n 1, 1) := by decide +kernel
theorem d_L_law_1215 : decode b_L_law 1215 = .ok (.aload_n 0, 1) := by decide +kernel
theorem d_L_law_1216 : decode b_L_law 1216 = .ok (.iload 4, 2) := by decide +kernel
theorem d_L_law_1218 : decode b_L_law 1218 = .ok (.iconst 1, 1) := by decide +kernel
theorem d_L_law_1219 : decode b_L_law 1219 = .ok (.iadd, 1) := by decide +kernel
theorem d_L_law_1220 : decode b_L_law 1220 = .ok (.iaload, 1) := by decide +kernel
theorem d_L_law_1221 : decode b_L_law 1221 = .ok (.invokevirtual 134, 3) := by decide +kernel
theorem d_L_law_1224 : decode b_L_law 1224 = .ok (.aload_n 2, 1) := by decide +kernel
theorem d_L_law_1225 : decode b_L_law 1225 = .ok (.aload_n 0, 1) := by decide +kernel
theorem d_L_law_1226 : decode b_L_law 1226 = .ok (.iload 4, 2) := by decide +kernel
theorem d_L_law_1228 : decode b_L_law 1228 = .ok (.iconst 1, 1) := by decide +kernel
theorem d_L_law_1229 : decode b_L_law 1229 = .ok (.iadd, 1) := by decide +kernel
theorem d_L_law_1230 : decode b_L_law 1230 = .ok (.iaload, 1) := by decide +kernel
theorem d_L_law_1231 : decode b_L_law 1231 = .ok (.invokevirtual 137, 3) := by decide +kernel
theorem d_L_law_1234 : decode b_L_law 1234 = .ok (.if_icmp .eq 5, 3) := by decide +kernel
theorem d_L_law_1237 : decode b_L_law 1237 = .ok (.iconst 0, 1) := by decide +kernel
theorem d_L_law_1238 : decode b_L_law 1238 = .ok (.ireturn, 1) := by decide +kernel
theorem d_L_law_1239 : decode b_L_law 1239 = .ok (.iinc 4 4, 3) := by decide +kernel
theorem d_L_law_1242 : decode b_L_law 1242 = .ok (.goto (-1219), 3) := by decide +kernel
theorem d_L_law_1245 : decode b_L_law 1245 = .ok (.iconst 1, 1) := by decide +kernel
theorem d_L_law_1246 : decode b_L_law 1246 = .ok (.ireturn, 1) := by decide +kernel
