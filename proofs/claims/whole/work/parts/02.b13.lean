theorem dL_law_1782 : decode cL_law 1782 = .ok (.dload 5, 2) := by decide +kernel
theorem dL_law_1784 : decode cL_law 1784 = .ok (.dload 7, 2) := by decide +kernel
theorem dL_law_1786 : decode cL_law 1786 = .ok (.dcmp .l, 1) := by decide +kernel
theorem dL_law_1787 : decode cL_law 1787 = .ok (.ifCond .eq 21, 3) := by decide +kernel
theorem dL_law_1790 : decode cL_law 1790 = .ok (.dload 5, 2) := by decide +kernel
theorem dL_law_1792 : decode cL_law 1792 = .ok (.dload 5, 2) := by decide +kernel
theorem dL_law_1794 : decode cL_law 1794 = .ok (.dcmp .l, 1) := by decide +kernel
theorem dL_law_1795 : decode cL_law 1795 = .ok (.ifCond .eq 11, 3) := by decide +kernel
theorem dL_law_1798 : decode cL_law 1798 = .ok (.dload 7, 2) := by decide +kernel
theorem dL_law_1800 : decode cL_law 1800 = .ok (.dload 7, 2) := by decide +kernel
theorem dL_law_1802 : decode cL_law 1802 = .ok (.dcmp .l, 1) := by decide +kernel
theorem dL_law_1803 : decode cL_law 1803 = .ok (.ifCond .ne 5, 3) := by decide +kernel
theorem dL_law_1806 : decode cL_law 1806 = .ok (.iconst 0, 1) := by decide +kernel
theorem dL_law_1807 : decode cL_law 1807 = .ok (.ireturn, 1) := by decide +kernel
theorem dL_law_1808 : decode cL_law 1808 = .ok (.goto 17, 3) := by decide +kernel
theorem dL_law_1811 : decode cL_law 1811 = .ok (.aload_n 1, 1) := by decide +kernel
theorem dL_law_1812 : decode cL_law 1812 = .ok (.invokevirtual 210, 3) := by decide +kernel
theorem dL_law_1815 : decode cL_law 1815 = .ok (.aload_n 2, 1) := by decide +kernel
theorem dL_law_1816 : decode cL_law 1816 = .ok (.invokevirtual 214, 3) := by decide +kernel
theorem dL_law_1819 : decode cL_law 1819 = .ok (.lcmp, 1) := by decide +kernel
theorem dL_law_1820 : decode cL_law 1820 = .ok (.ifCond .eq 5, 3) := by decide +kernel
theorem dL_law_1823 : decode cL_law 1823 = .ok (.iconst 0, 1) := by decide +kernel
theorem dL_law_1824 : decode cL_law 1824 = .ok (.ireturn, 1) := by decide +kernel
theorem dL_law_1825 : decode cL_law 1825 = .ok (.iinc 4 5, 3) := by decide +kernel
theorem dL_law_1828 : decode cL_law 1828 = .ok (.goto (-1805), 3) := by decide +kernel
theorem dL_law_1831 : decode cL_law 1831 = .ok (.iconst 1, 1) := by decide +kernel
theorem dL_law_1832 : decode cL_law 1832 = .ok (.ireturn, 1) := by decide +kernel
abbrev vwCl : List vw_C := [(RX0, TX0, 2), (RX1, TX1, 5), (RX2, TX2, 9), (RX3, TX3, 12)]
