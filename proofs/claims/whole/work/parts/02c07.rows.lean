theorem dX8_digest_224 : decode cX8_digest 224 = .ok (.aload_n 0, 1) := by decide +kernel
theorem dX8_digest_225 : decode cX8_digest 225 = .ok (.aload_n 0, 1) := by decide +kernel
theorem dX8_digest_226 : decode cX8_digest 226 = .ok (.iconst 4, 1) := by decide +kernel
theorem dX8_digest_227 : decode cX8_digest 227 = .ok (.bipush 10, 2) := by decide +kernel
theorem dX8_digest_229 : decode cX8_digest 229 = .ok (.iconst 1, 1) := by decide +kernel
theorem dX8_digest_230 : decode cX8_digest 230 = .ok (.iload_n 1, 1) := by decide +kernel
theorem dX8_digest_231 : decode cX8_digest 231 = .ok (.invokevirtual 128, 3) := by decide +kernel
theorem dX8_digest_234 : decode cX8_digest 234 = .ok (.invokevirtual 190, 3) := by decide +kernel
theorem dX8_digest_237 : decode cX8_digest 237 = .ok (.iinc 1 1, 3) := by decide +kernel
theorem dX8_digest_240 : decode cX8_digest 240 = .ok (.goto (-21), 3) := by decide +kernel
theorem dX8_digest_243 : decode cX8_digest 243 = .ok (.aload_n 0, 1) := by decide +kernel
theorem dX8_digest_244 : decode cX8_digest 244 = .ok (.getfield 176, 3) := by decide +kernel
theorem dX8_digest_247 : decode cX8_digest 247 = .ok (.lreturn, 1) := by decide +kernel
