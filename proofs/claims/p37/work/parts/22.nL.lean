theorem dL_done_435 : decode cL_done 435 = .ok (.istore 7, 2) := by decide +kernel
theorem dL_done_437 : decode cL_done 437 = .ok (.iload 7, 2) := by decide +kernel
theorem dL_done_439 : decode cL_done 439 = .ok (.ifCond .eq 35, 3) := by decide +kernel
theorem dL_done_442 : decode cL_done 442 = .ok (.aload_n 0, 1) := by decide +kernel
theorem dL_done_443 : decode cL_done 443 = .ok (.iconst 0, 1) := by decide +kernel
theorem dL_done_444 : decode cL_done 444 = .ok (.invokestatic 179, 3) := by decide +kernel
theorem dL_done_447 : decode cL_done 447 = .ok (.iload 5, 2) := by decide +kernel
theorem dL_done_449 : decode cL_done 449 = .ok (.if_icmp .ne 25, 3) := by decide +kernel
theorem dL_done_452 : decode cL_done 452 = .ok (.aload_n 0, 1) := by decide +kernel
theorem dL_done_453 : decode cL_done 453 = .ok (.invokestatic 223, 3) := by decide +kernel
theorem dL_done_456 : decode cL_done 456 = .ok (.lload_n 2, 1) := by decide +kernel
theorem dL_done_457 : decode cL_done 457 = .ok (.lcmp, 1) := by decide +kernel
theorem dL_done_458 : decode cL_done 458 = .ok (.ifCond .ne 16, 3) := by decide +kernel
theorem dL_done_461 : decode cL_done 461 = .ok (.aload_n 0, 1) := by decide +kernel
theorem dL_done_462 : decode cL_done 462 = .ok (.invokestatic 198, 3) := by decide +kernel
theorem dL_done_465 : decode cL_done 465 = .ok (.bipush (-103), 2) := by decide +kernel
theorem dL_done_467 : decode cL_done 467 = .ok (.if_icmp .ne 7, 3) := by decide +kernel
theorem dL_done_470 : decode cL_done 470 = .ok (.iconst 1, 1) := by decide +kernel
theorem dL_done_471 : decode cL_done 471 = .ok (.goto 4, 3) := by decide +kernel
theorem dL_done_474 : decode cL_done 474 = .ok (.iconst 0, 1) := by decide +kernel
theorem dL_done_475 : decode cL_done 475 = .ok (.ireturn, 1) := by decide +kernel
