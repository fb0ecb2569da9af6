theorem d_Law_law_603 : decode b_Law_law 603 = .ok (.iconst 2, 1) := by decide +kernel
theorem d_Law_law_604 : decode b_Law_law 604 = .ok (.iadd, 1) := by decide +kernel
theorem d_Law_law_605 : decode b_Law_law 605 = .ok (.iaload, 1) := by decide +kernel
theorem d_Law_law_606 : decode b_Law_law 606 = .ok (.invokevirtual 80, 3) := by decide +kernel
theorem d_Law_law_609 : decode b_Law_law 609 = .ok (.aload_n 2, 1) := by decide +kernel
theorem d_Law_law_610 : decode b_Law_law 610 = .ok (.aload_n 0, 1) := by decide +kernel
theorem d_Law_law_611 : decode b_Law_law 611 = .ok (.iload 4, 2) := by decide +kernel
theorem d_Law_law_613 : decode b_Law_law 613 = .ok (.iconst 1, 1) := by decide +kernel
theorem d_Law_law_614 : decode b_Law_law 614 = .ok (.iadd, 1) := by decide +kernel
theorem d_Law_law_615 : decode b_Law_law 615 = .ok (.iaload, 1) := by decide +kernel
theorem d_Law_law_616 : decode b_Law_law 616 = .ok (.aload_n 0, 1) := by decide +kernel
theorem d_Law_law_617 : decode b_Law_law 617 = .ok (.iload 4, 2) := by decide +kernel
theorem d_Law_law_619 : decode b_Law_law 619 = .ok (.iconst 2, 1) := by decide +kernel
theorem d_Law_law_620 : decode b_Law_law 620 = .ok (.iadd, 1) := by decide +kernel
theorem d_Law_law_621 : decode b_Law_law 621 = .ok (.iaload, 1) := by decide +kernel
theorem d_Law_law_622 : decode b_Law_law 622 = .ok (.invokevirtual 84, 3) := by decide +kernel
theorem d_Law_law_625 : decode b_Law_law 625 = .ok (.if_icmp .eq 5, 3) := by decide +kernel
theorem d_Law_law_628 : decode b_Law_law 628 = .ok (.iconst 0, 1) := by decide +kernel
theorem d_Law_law_629 : decode b_Law_law 629 = .ok (.ireturn, 1) := by decide +kernel
theorem d_Law_law_630 : decode b_Law_law 630 = .ok (.iinc 4 6, 3) := by decide +kernel
theorem d_Law_law_633 : decode b_Law_law 633 = .ok (.goto (-610), 3) := by decide +kernel
theorem d_Law_law_636 : decode b_Law_law 636 = .ok (.iconst 1, 1) := by decide +kernel
theorem d_Law_law_637 : decode b_Law_law 637 = .ok (.ireturn, 1) := by decide +kernel
