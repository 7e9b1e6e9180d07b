/-! ===== the law: its pool, its helpers (printed by program) ===== -/
set_option maxRecDepth 100000 in
theorem kmW_7 : x_Lok xM xN RL 7 0 1723 := ⟨_, rfl, mkX11_boat, x_in 1272 rfl rfl, x_in 1273 rfl rfl, x_in 1274 rfl rfl, ⟨(RX11, TX11, 17), rfl, rfl⟩, 2, rfl, mpX11_boat⟩
set_option maxRecDepth 100000 in
theorem kmW_15 : x_Lok xM xN RL 15 0 1739 := ⟨_, rfl, mkX11_gull, x_in 1344 rfl rfl, x_in 1345 rfl rfl, x_in 1346 rfl rfl, ⟨(RX11, TX11, 17), rfl, rfl⟩, 2, rfl, mpX11_gull⟩
set_option maxRecDepth 100000 in
theorem kmW_18 : x_Lok xM xN RL 18 0 1755 := ⟨_, rfl, mkX11_letter, x_in 1351 rfl rfl, x_in 1352 rfl rfl, x_in 1353 rfl rfl, ⟨(RX11, TX11, 17), rfl, rfl⟩, 2, rfl, mpX11_letter⟩
set_option maxRecDepth 100000 in
theorem kmW_21 : x_Lok xM xN RL 21 0 2587 := ⟨_, rfl, mkX11_row, x_in 1359 rfl rfl, x_in 1360 rfl rfl, x_in 1361 rfl rfl, ⟨(RX11, TX11, 17), rfl, rfl⟩, 1, rfl, mpX11_row⟩
set_option maxRecDepth 100000 in
theorem kmW_25 : x_Lok xM xN RL 25 4 1627 := ⟨_, rfl, mkX11_init, x_in 117 rfl rfl, x_in 118 rfl rfl, rfl, rfl, 0, rfl, mpX11_init⟩
set_option maxRecDepth 100000 in
theorem kmW_28 : x_Lok xM xN RL 28 4 2716 := ⟨_, rfl, mkX12_init, x_in 1365 rfl rfl, x_in 1366 rfl rfl, rfl, rfl, 0, rfl, mpX12_init⟩
set_option maxRecDepth 100000 in
theorem kmW_29 : x_Lok xM xN RL 29 0 1643 := ⟨_, rfl, mkX11_sign, x_in 504 rfl rfl, x_in 505 rfl rfl, x_in 506 rfl rfl, ⟨(RX11, TX11, 17), rfl, rfl⟩, 1, rfl, mpX11_sign⟩
set_option maxRecDepth 100000 in
theorem kmW_32 : x_Lok xM xN RL 32 0 2860 := ⟨_, rfl, mkX12_sign, x_in 1518 rfl rfl, x_in 1519 rfl rfl, x_in 1520 rfl rfl, ⟨(RX12, TX12, 48), rfl, rfl⟩, 1, rfl, mpX12_sign⟩
set_option maxRecDepth 100000 in
theorem kmW_33 : x_Lok xM xN RL 33 0 1659 := ⟨_, rfl, mkX11_end, x_in 512 rfl rfl, x_in 513 rfl rfl, x_in 514 rfl rfl, ⟨(RX11, TX11, 17), rfl, rfl⟩, 1, rfl, mpX11_end⟩
set_option maxRecDepth 100000 in
theorem kmW_37 : x_Lok xM xN RL 37 0 2876 := ⟨_, rfl, mkX12_end, x_in 1522 rfl rfl, x_in 1523 rfl rfl, x_in 1524 rfl rfl, ⟨(RX12, TX12, 48), rfl, rfl⟩, 1, rfl, mpX12_end⟩
set_option maxRecDepth 100000 in
theorem kmW_38 : x_Lok xM xN RL 38 0 1675 := ⟨_, rfl, mkX11_fleet, x_in 520 rfl rfl, x_in 521 rfl rfl, x_in 522 rfl rfl, ⟨(RX11, TX11, 17), rfl, rfl⟩, 0, rfl, mpX11_fleet⟩
set_option maxRecDepth 100000 in
theorem kmW_42 : x_Lok xM xN RL 42 0 3068 := ⟨_, rfl, mkX12_fleet, x_in 1529 rfl rfl, x_in 1530 rfl rfl, x_in 1531 rfl rfl, ⟨(RX12, TX12, 48), rfl, rfl⟩, 0, rfl, mpX12_fleet⟩
set_option maxRecDepth 100000 in
theorem kmW_43 : x_Lok xM xN RL 43 0 1691 := ⟨_, rfl, mkX11_gulls, x_in 592 rfl rfl, x_in 593 rfl rfl, x_in 594 rfl rfl, ⟨(RX11, TX11, 17), rfl, rfl⟩, 0, rfl, mpX11_gulls⟩
set_option maxRecDepth 100000 in
theorem kmW_46 : x_Lok xM xN RL 46 0 3084 := ⟨_, rfl, mkX12_gulls, x_in 1573 rfl rfl, x_in 1574 rfl rfl, x_in 1575 rfl rfl, ⟨(RX12, TX12, 48), rfl, rfl⟩, 0, rfl, mpX12_gulls⟩
set_option maxRecDepth 100000 in
theorem kmW_47 : x_Lok xM xN RL 47 0 1707 := ⟨_, rfl, mkX11_rule, x_in 621 rfl rfl, x_in 622 rfl rfl, x_in 623 rfl rfl, ⟨(RX11, TX11, 17), rfl, rfl⟩, 0, rfl, mpX11_rule⟩
set_option maxRecDepth 100000 in
theorem kmW_50 : x_Lok xM xN RL 50 0 3180 := ⟨_, rfl, mkX12_rule, x_in 1581 rfl rfl, x_in 1582 rfl rfl, x_in 1583 rfl rfl, ⟨(RX12, TX12, 48), rfl, rfl⟩, 0, rfl, mpX12_rule⟩
set_option maxRecDepth 100000 in
theorem kmW_56 : x_Lok xM xN RL 56 0 3212 := ⟨_, rfl, mkX12_boat, x_in 1604 rfl rfl, x_in 1605 rfl rfl, x_in 1606 rfl rfl, ⟨(RX12, TX12, 48), rfl, rfl⟩, 2, rfl, mpX12_boat⟩
set_option maxRecDepth 100000 in
theorem kmW_57 : x_Lok xM xN RL 57 0 2732 := ⟨_, rfl, mkX12_thrown, x_in 1514 rfl rfl, x_in 1515 rfl rfl, x_in 1516 rfl rfl, ⟨(RX12, TX12, 48), rfl, rfl⟩, 0, rfl, mpX12_thrown⟩
set_option maxRecDepth 100000 in
theorem kmW_62 : x_Lok xM xN RL 62 0 3228 := ⟨_, rfl, mkX12_gull, x_in 1619 rfl rfl, x_in 1620 rfl rfl, x_in 1621 rfl rfl, ⟨(RX12, TX12, 48), rfl, rfl⟩, 2, rfl, mpX12_gull⟩
set_option maxRecDepth 100000 in
theorem kmW_65 : x_Lok xM xN RL 65 0 3244 := ⟨_, rfl, mkX12_letter_, x_in 1627 rfl rfl, x_in 1628 rfl rfl, x_in 1629 rfl rfl, ⟨(RX12, TX12, 48), rfl, rfl⟩, 2, rfl, mpX12_letter_⟩
set_option maxRecDepth 100000 in
theorem kmW_66 : x_Lok xM xN RL 66 0 1771 := ⟨_, rfl, mkX11_weather, x_in 755 rfl rfl, x_in 756 rfl rfl, x_in 757 rfl rfl, ⟨(RX11, TX11, 17), rfl, rfl⟩, 2, rfl, mpX11_weather⟩
set_option maxRecDepth 100000 in
theorem kmW_69 : x_Lok xM xN RL 69 0 3276 := ⟨_, rfl, mkX12_weather, x_in 1635 rfl rfl, x_in 1636 rfl rfl, x_in 1637 rfl rfl, ⟨(RX12, TX12, 48), rfl, rfl⟩, 2, rfl, mpX12_weather⟩
set_option maxRecDepth 100000 in
theorem kmW_70 : x_Lok xM xN RL 70 0 1787 := ⟨_, rfl, mkX11_sheet, x_in 759 rfl rfl, x_in 760 rfl rfl, x_in 761 rfl rfl, ⟨(RX11, TX11, 17), rfl, rfl⟩, 4, rfl, mpX11_sheet⟩
set_option maxRecDepth 100000 in
theorem kmW_74 : x_Lok xM xN RL 74 0 3292 := ⟨_, rfl, mkX12_sheet, x_in 1639 rfl rfl, x_in 1640 rfl rfl, x_in 1641 rfl rfl, ⟨(RX12, TX12, 48), rfl, rfl⟩, 4, rfl, mpX12_sheet⟩
set_option maxRecDepth 100000 in
theorem kmW_75 : x_Lok xM xN RL 75 0 1851 := ⟨_, rfl, mkX11_write, x_in 772 rfl rfl, x_in 773 rfl rfl, x_in 774 rfl rfl, ⟨(RX11, TX11, 17), rfl, rfl⟩, 1, rfl, mpX11_write⟩
set_option maxRecDepth 100000 in
theorem kmW_78 : x_Lok xM xN RL 78 0 3484 := ⟨_, rfl, mkX12_write, x_in 1645 rfl rfl, x_in 1646 rfl rfl, x_in 1647 rfl rfl, ⟨(RX12, TX12, 48), rfl, rfl⟩, 1, rfl, mpX12_write⟩
set_option maxRecDepth 100000 in
theorem kmW_79 : x_Lok xM xN RL 79 0 1867 := ⟨_, rfl, mkX11_send, x_in 813 rfl rfl, x_in 814 rfl rfl, x_in 815 rfl rfl, ⟨(RX11, TX11, 17), rfl, rfl⟩, 2, rfl, mpX11_send⟩
set_option maxRecDepth 100000 in
theorem kmW_82 : x_Lok xM xN RL 82 0 3532 := ⟨_, rfl, mkX12_send, x_in 1664 rfl rfl, x_in 1665 rfl rfl, x_in 1666 rfl rfl, ⟨(RX12, TX12, 48), rfl, rfl⟩, 2, rfl, mpX12_send⟩
set_option maxRecDepth 100000 in
theorem kmW_83 : x_Lok xM xN RL 83 0 1883 := ⟨_, rfl, mkX11_paint, x_in 836 rfl rfl, x_in 837 rfl rfl, x_in 838 rfl rfl, ⟨(RX11, TX11, 17), rfl, rfl⟩, 2, rfl, mpX11_paint⟩
set_option maxRecDepth 100000 in
theorem kmW_86 : x_Lok xM xN RL 86 0 3548 := ⟨_, rfl, mkX12_paint, x_in 1680 rfl rfl, x_in 1681 rfl rfl, x_in 1682 rfl rfl, ⟨(RX12, TX12, 48), rfl, rfl⟩, 2, rfl, mpX12_paint⟩
set_option maxRecDepth 100000 in
theorem kmW_87 : x_Lok xM xN RL 87 0 1899 := ⟨_, rfl, mkX11_show, x_in 844 rfl rfl, x_in 845 rfl rfl, x_in 846 rfl rfl, ⟨(RX11, TX11, 17), rfl, rfl⟩, 1, rfl, mpX11_show⟩
set_option maxRecDepth 100000 in
theorem kmW_90 : x_Lok xM xN RL 90 0 3596 := ⟨_, rfl, mkX12_show, x_in 1684 rfl rfl, x_in 1685 rfl rfl, x_in 1686 rfl rfl, ⟨(RX12, TX12, 48), rfl, rfl⟩, 1, rfl, mpX12_show⟩
set_option maxRecDepth 100000 in
theorem kmW_91 : x_Lok xM xN RL 91 0 1915 := ⟨_, rfl, mkX11_chum, x_in 852 rfl rfl, x_in 853 rfl rfl, x_in 854 rfl rfl, ⟨(RX11, TX11, 17), rfl, rfl⟩, 2, rfl, mpX11_chum⟩
set_option maxRecDepth 100000 in
theorem kmW_94 : x_Lok xM xN RL 94 0 3612 := ⟨_, rfl, mkX12_chum, x_in 1696 rfl rfl, x_in 1697 rfl rfl, x_in 1698 rfl rfl, ⟨(RX12, TX12, 48), rfl, rfl⟩, 2, rfl, mpX12_chum⟩
set_option maxRecDepth 100000 in
theorem kmW_95 : x_Lok xM xN RL 95 0 1931 := ⟨_, rfl, mkX11_feed, x_in 860 rfl rfl, x_in 861 rfl rfl, x_in 862 rfl rfl, ⟨(RX11, TX11, 17), rfl, rfl⟩, 1, rfl, mpX11_feed⟩
set_option maxRecDepth 100000 in
theorem kmW_98 : x_Lok xM xN RL 98 0 3644 := ⟨_, rfl, mkX12_feed, x_in 1700 rfl rfl, x_in 1701 rfl rfl, x_in 1702 rfl rfl, ⟨(RX12, TX12, 48), rfl, rfl⟩, 1, rfl, mpX12_feed⟩
set_option maxRecDepth 100000 in
theorem kmW_99 : x_Lok xM xN RL 99 0 1947 := ⟨_, rfl, mkX11_half, x_in 868 rfl rfl, x_in 869 rfl rfl, x_in 870 rfl rfl, ⟨(RX11, TX11, 17), rfl, rfl⟩, 0, rfl, mpX11_half⟩
set_option maxRecDepth 100000 in
theorem kmW_102 : x_Lok xM xN RL 102 0 3708 := ⟨_, rfl, mkX12_half, x_in 1708 rfl rfl, x_in 1709 rfl rfl, x_in 1710 rfl rfl, ⟨(RX12, TX12, 48), rfl, rfl⟩, 0, rfl, mpX12_half⟩
set_option maxRecDepth 100000 in
theorem kmW_103 : x_Lok xM xN RL 103 0 1963 := ⟨_, rfl, mkX11_halves, x_in 959 rfl rfl, x_in 960 rfl rfl, x_in 961 rfl rfl, ⟨(RX11, TX11, 17), rfl, rfl⟩, 1, rfl, mpX11_halves⟩
set_option maxRecDepth 100000 in
theorem kmW_106 : x_Lok xM xN RL 106 0 3724 := ⟨_, rfl, mkX12_halves, x_in 1760 rfl rfl, x_in 1713 rfl rfl, x_in 1714 rfl rfl, ⟨(RX12, TX12, 48), rfl, rfl⟩, 1, rfl, mpX12_halves⟩
set_option maxRecDepth 100000 in
theorem kmW_107 : x_Lok xM xN RL 107 0 1979 := ⟨_, rfl, mkX11_day, x_in 963 rfl rfl, x_in 964 rfl rfl, x_in 965 rfl rfl, ⟨(RX11, TX11, 17), rfl, rfl⟩, 0, rfl, mpX11_day⟩
set_option maxRecDepth 100000 in
theorem kmW_110 : x_Lok xM xN RL 110 0 3740 := ⟨_, rfl, mkX12_day, x_in 1761 rfl rfl, x_in 1762 rfl rfl, x_in 1763 rfl rfl, ⟨(RX12, TX12, 48), rfl, rfl⟩, 0, rfl, mpX12_day⟩
set_option maxRecDepth 100000 in
theorem kmW_111 : x_Lok xM xN RL 111 0 1995 := ⟨_, rfl, mkX11_undo, x_in 994 rfl rfl, x_in 995 rfl rfl, x_in 996 rfl rfl, ⟨(RX11, TX11, 17), rfl, rfl⟩, 0, rfl, mpX11_undo⟩
set_option maxRecDepth 100000 in
theorem kmW_114 : x_Lok xM xN RL 114 0 3788 := ⟨_, rfl, mkX12_undo, x_in 1773 rfl rfl, x_in 1774 rfl rfl, x_in 1775 rfl rfl, ⟨(RX12, TX12, 48), rfl, rfl⟩, 0, rfl, mpX12_undo⟩
set_option maxRecDepth 100000 in
theorem kmW_115 : x_Lok xM xN RL 115 0 2059 := ⟨_, rfl, mkX11_where, x_in 1006 rfl rfl, x_in 1007 rfl rfl, x_in 1008 rfl rfl, ⟨(RX11, TX11, 17), rfl, rfl⟩, 2, rfl, mpX11_where⟩
set_option maxRecDepth 100000 in
theorem kmW_118 : x_Lok xM xN RL 118 0 3820 := ⟨_, rfl, mkX12_where, x_in 1777 rfl rfl, x_in 1778 rfl rfl, x_in 1779 rfl rfl, ⟨(RX12, TX12, 48), rfl, rfl⟩, 2, rfl, mpX12_where⟩
set_option maxRecDepth 100000 in
theorem kmW_119 : x_Lok xM xN RL 119 0 2075 := ⟨_, rfl, mkX11_comes, x_in 1019 rfl rfl, x_in 1020 rfl rfl, x_in 1021 rfl rfl, ⟨(RX11, TX11, 17), rfl, rfl⟩, 1, rfl, mpX11_comes⟩
set_option maxRecDepth 100000 in
theorem kmW_122 : x_Lok xM xN RL 122 0 3852 := ⟨_, rfl, mkX12_comes, x_in 1784 rfl rfl, x_in 1785 rfl rfl, x_in 1786 rfl rfl, ⟨(RX12, TX12, 48), rfl, rfl⟩, 1, rfl, mpX12_comes⟩
set_option maxRecDepth 100000 in
theorem kmW_123 : x_Lok xM xN RL 123 0 2091 := ⟨_, rfl, mkX11_would, x_in 1036 rfl rfl, x_in 1037 rfl rfl, x_in 1038 rfl rfl, ⟨(RX11, TX11, 17), rfl, rfl⟩, 1, rfl, mpX11_would⟩
set_option maxRecDepth 100000 in
theorem kmW_126 : x_Lok xM xN RL 126 0 3868 := ⟨_, rfl, mkX12_would, x_in 1795 rfl rfl, x_in 1796 rfl rfl, x_in 1797 rfl rfl, ⟨(RX12, TX12, 48), rfl, rfl⟩, 1, rfl, mpX12_would⟩
set_option maxRecDepth 100000 in
theorem kmW_127 : x_Lok xM xN RL 127 0 2107 := ⟨_, rfl, mkX11_delivers, x_in 1040 rfl rfl, x_in 1041 rfl rfl, x_in 1042 rfl rfl, ⟨(RX11, TX11, 17), rfl, rfl⟩, 1, rfl, mpX11_delivers⟩
set_option maxRecDepth 100000 in
theorem kmW_130 : x_Lok xM xN RL 130 0 3900 := ⟨_, rfl, mkX12_delivers, x_in 1799 rfl rfl, x_in 1800 rfl rfl, x_in 1801 rfl rfl, ⟨(RX12, TX12, 48), rfl, rfl⟩, 1, rfl, mpX12_delivers⟩
set_option maxRecDepth 100000 in
theorem kmW_131 : x_Lok xM xN RL 131 0 2123 := ⟨_, rfl, mkX11_due, x_in 1052 rfl rfl, x_in 1053 rfl rfl, x_in 1054 rfl rfl, ⟨(RX11, TX11, 17), rfl, rfl⟩, 1, rfl, mpX11_due⟩
set_option maxRecDepth 100000 in
theorem kmW_134 : x_Lok xM xN RL 134 0 3916 := ⟨_, rfl, mkX12_due, x_in 1806 rfl rfl, x_in 1807 rfl rfl, x_in 1808 rfl rfl, ⟨(RX12, TX12, 48), rfl, rfl⟩, 1, rfl, mpX12_due⟩
set_option maxRecDepth 100000 in
theorem kmW_135 : x_Lok xM xN RL 135 0 2139 := ⟨_, rfl, mkX11_heads, x_in 1056 rfl rfl, x_in 1057 rfl rfl, x_in 1058 rfl rfl, ⟨(RX11, TX11, 17), rfl, rfl⟩, 1, rfl, mpX11_heads⟩
set_option maxRecDepth 100000 in
theorem kmW_138 : x_Lok xM xN RL 138 0 3932 := ⟨_, rfl, mkX12_heads, x_in 1810 rfl rfl, x_in 1811 rfl rfl, x_in 1812 rfl rfl, ⟨(RX12, TX12, 48), rfl, rfl⟩, 1, rfl, mpX12_heads⟩
set_option maxRecDepth 100000 in
theorem kmW_139 : x_Lok xM xN RL 139 0 2155 := ⟨_, rfl, mkX11_nearest, x_in 1064 rfl rfl, x_in 1065 rfl rfl, x_in 1066 rfl rfl, ⟨(RX11, TX11, 17), rfl, rfl⟩, 2, rfl, mpX11_nearest⟩
set_option maxRecDepth 100000 in
theorem kmW_142 : x_Lok xM xN RL 142 0 3964 := ⟨_, rfl, mkX12_nearest, x_in 1814 rfl rfl, x_in 1815 rfl rfl, x_in 1816 rfl rfl, ⟨(RX12, TX12, 48), rfl, rfl⟩, 2, rfl, mpX12_nearest⟩
set_option maxRecDepth 100000 in
theorem kmW_143 : x_Lok xM xN RL 143 0 2203 := ⟨_, rfl, mkX11_shouted, x_in 1072 rfl rfl, x_in 1073 rfl rfl, x_in 1074 rfl rfl, ⟨(RX11, TX11, 17), rfl, rfl⟩, 3, rfl, mpX11_shouted⟩
set_option maxRecDepth 100000 in
theorem kmW_147 : x_Lok xM xN RL 147 0 4044 := ⟨_, rfl, mkX12_shouted, x_in 1821 rfl rfl, x_in 1822 rfl rfl, x_in 1823 rfl rfl, ⟨(RX12, TX12, 48), rfl, rfl⟩, 3, rfl, mpX12_shouted⟩
set_option maxRecDepth 100000 in
theorem kmW_148 : x_Lok xM xN RL 148 0 2219 := ⟨_, rfl, mkX11_spreads, x_in 1106 rfl rfl, x_in 1107 rfl rfl, x_in 1108 rfl rfl, ⟨(RX11, TX11, 17), rfl, rfl⟩, 2, rfl, mpX11_spreads⟩
set_option maxRecDepth 100000 in
theorem kmW_151 : x_Lok xM xN RL 151 0 4076 := ⟨_, rfl, mkX12_spreads, x_in 1840 rfl rfl, x_in 1841 rfl rfl, x_in 1842 rfl rfl, ⟨(RX12, TX12, 48), rfl, rfl⟩, 2, rfl, mpX12_spreads⟩
set_option maxRecDepth 100000 in
theorem kmW_152 : x_Lok xM xN RL 152 0 2235 := ⟨_, rfl, mkX11_teller, x_in 1114 rfl rfl, x_in 1115 rfl rfl, x_in 1116 rfl rfl, ⟨(RX11, TX11, 17), rfl, rfl⟩, 1, rfl, mpX11_teller⟩
set_option maxRecDepth 100000 in
theorem kmW_155 : x_Lok xM xN RL 155 0 4092 := ⟨_, rfl, mkX12_teller, x_in 1849 rfl rfl, x_in 1850 rfl rfl, x_in 1851 rfl rfl, ⟨(RX12, TX12, 48), rfl, rfl⟩, 1, rfl, mpX12_teller⟩
set_option maxRecDepth 100000 in
theorem kmW_156 : x_Lok xM xN RL 156 0 2251 := ⟨_, rfl, mkX11_order, x_in 1118 rfl rfl, x_in 1119 rfl rfl, x_in 1120 rfl rfl, ⟨(RX11, TX11, 17), rfl, rfl⟩, 2, rfl, mpX11_order⟩
set_option maxRecDepth 100000 in
theorem kmW_159 : x_Lok xM xN RL 159 0 4124 := ⟨_, rfl, mkX12_order, x_in 1853 rfl rfl, x_in 1854 rfl rfl, x_in 1855 rfl rfl, ⟨(RX12, TX12, 48), rfl, rfl⟩, 2, rfl, mpX12_order⟩
set_option maxRecDepth 100000 in
theorem kmW_160 : x_Lok xM xN RL 160 0 2331 := ⟨_, rfl, mkX11_thief, x_in 1141 rfl rfl, x_in 1142 rfl rfl, x_in 1143 rfl rfl, ⟨(RX11, TX11, 17), rfl, rfl⟩, 1, rfl, mpX11_thief⟩
set_option maxRecDepth 100000 in
theorem kmW_163 : x_Lok xM xN RL 163 0 4156 := ⟨_, rfl, mkX12_thief, x_in 1861 rfl rfl, x_in 1862 rfl rfl, x_in 1863 rfl rfl, ⟨(RX12, TX12, 48), rfl, rfl⟩, 1, rfl, mpX12_thief⟩
set_option maxRecDepth 100000 in
theorem kmW_164 : x_Lok xM xN RL 164 0 2347 := ⟨_, rfl, mkX11_astray, x_in 1153 rfl rfl, x_in 1154 rfl rfl, x_in 1155 rfl rfl, ⟨(RX11, TX11, 17), rfl, rfl⟩, 0, rfl, mpX11_astray⟩
set_option maxRecDepth 100000 in
theorem kmW_167 : x_Lok xM xN RL 167 0 4172 := ⟨_, rfl, mkX12_astray, x_in 1869 rfl rfl, x_in 1870 rfl rfl, x_in 1871 rfl rfl, ⟨(RX12, TX12, 48), rfl, rfl⟩, 0, rfl, mpX12_astray⟩
set_option maxRecDepth 100000 in
theorem kmW_168 : x_Lok xM xN RL 168 0 2379 := ⟨_, rfl, mkX11_fits, x_in 1157 rfl rfl, x_in 1158 rfl rfl, x_in 1159 rfl rfl, ⟨(RX11, TX11, 17), rfl, rfl⟩, 2, rfl, mpX11_fits⟩
set_option maxRecDepth 100000 in
theorem kmW_171 : x_Lok xM xN RL 171 0 4204 := ⟨_, rfl, mkX12_fits, x_in 1873 rfl rfl, x_in 1874 rfl rfl, x_in 1875 rfl rfl, ⟨(RX12, TX12, 48), rfl, rfl⟩, 2, rfl, mpX12_fits⟩
set_option maxRecDepth 100000 in
theorem kmW_172 : x_Lok xM xN RL 172 0 2395 := ⟨_, rfl, mkX11_ring, x_in 1168 rfl rfl, x_in 1169 rfl rfl, x_in 1170 rfl rfl, ⟨(RX11, TX11, 17), rfl, rfl⟩, 1, rfl, mpX11_ring⟩
set_option maxRecDepth 100000 in
theorem kmW_175 : x_Lok xM xN RL 175 0 4220 := ⟨_, rfl, mkX12_ring, x_in 1881 rfl rfl, x_in 1882 rfl rfl, x_in 1883 rfl rfl, ⟨(RX12, TX12, 48), rfl, rfl⟩, 1, rfl, mpX12_ring⟩
set_option maxRecDepth 100000 in
theorem kmW_176 : x_Lok xM xN RL 176 0 2427 := ⟨_, rfl, mkX11_lonely, x_in 1172 rfl rfl, x_in 1173 rfl rfl, x_in 1174 rfl rfl, ⟨(RX11, TX11, 17), rfl, rfl⟩, 0, rfl, mpX11_lonely⟩
set_option maxRecDepth 100000 in
theorem kmW_179 : x_Lok xM xN RL 179 0 4236 := ⟨_, rfl, mkX12_lonely, x_in 1885 rfl rfl, x_in 1886 rfl rfl, x_in 1887 rfl rfl, ⟨(RX12, TX12, 48), rfl, rfl⟩, 0, rfl, mpX12_lonely⟩
set_option maxRecDepth 100000 in
theorem kmW_180 : x_Lok xM xN RL 180 0 2443 := ⟨_, rfl, mkX11_train, x_in 1180 rfl rfl, x_in 1181 rfl rfl, x_in 1182 rfl rfl, ⟨(RX11, TX11, 17), rfl, rfl⟩, 2, rfl, mpX11_train⟩
set_option maxRecDepth 100000 in
theorem kmW_183 : x_Lok xM xN RL 183 0 4284 := ⟨_, rfl, mkX12_train, x_in 1889 rfl rfl, x_in 1890 rfl rfl, x_in 1891 rfl rfl, ⟨(RX12, TX12, 48), rfl, rfl⟩, 2, rfl, mpX12_train⟩
set_option maxRecDepth 100000 in
theorem kmW_184 : x_Lok xM xN RL 184 0 2459 := ⟨_, rfl, mkX11_codes, x_in 1207 rfl rfl, x_in 1208 rfl rfl, x_in 1209 rfl rfl, ⟨(RX11, TX11, 17), rfl, rfl⟩, 1, rfl, mpX11_codes⟩
set_option maxRecDepth 100000 in
theorem kmW_187 : x_Lok xM xN RL 187 0 4316 := ⟨_, rfl, mkX12_codes, x_in 1903 rfl rfl, x_in 1904 rfl rfl, x_in 1905 rfl rfl, ⟨(RX12, TX12, 48), rfl, rfl⟩, 1, rfl, mpX12_codes⟩
set_option maxRecDepth 100000 in
theorem kmW_188 : x_Lok xM xN RL 188 0 2475 := ⟨_, rfl, mkX11_slip, x_in 1229 rfl rfl, x_in 1230 rfl rfl, x_in 1231 rfl rfl, ⟨(RX11, TX11, 17), rfl, rfl⟩, 2, rfl, mpX11_slip⟩
set_option maxRecDepth 100000 in
theorem kmW_191 : x_Lok xM xN RL 191 0 4332 := ⟨_, rfl, mkX12_slip, x_in 1912 rfl rfl, x_in 1913 rfl rfl, x_in 1914 rfl rfl, ⟨(RX12, TX12, 48), rfl, rfl⟩, 2, rfl, mpX12_slip⟩
set_option maxRecDepth 100000 in
theorem kmW_192 : x_Lok xM xN RL 192 0 2491 := ⟨_, rfl, mkX11_opens, x_in 1233 rfl rfl, x_in 1234 rfl rfl, x_in 1235 rfl rfl, ⟨(RX11, TX11, 17), rfl, rfl⟩, 4, rfl, mpX11_opens⟩
set_option maxRecDepth 100000 in
theorem kmW_195 : x_Lok xM xN RL 195 0 4348 := ⟨_, rfl, mkX12_opens, x_in 1916 rfl rfl, x_in 1917 rfl rfl, x_in 1918 rfl rfl, ⟨(RX12, TX12, 48), rfl, rfl⟩, 4, rfl, mpX12_opens⟩
set_option maxRecDepth 100000 in
theorem kmW_196 : x_Lok xM xN RL 196 0 2523 := ⟨_, rfl, mkX11_season, x_in 1244 rfl rfl, x_in 1245 rfl rfl, x_in 1246 rfl rfl, ⟨(RX11, TX11, 17), rfl, rfl⟩, 3, rfl, mpX11_season⟩
set_option maxRecDepth 100000 in
theorem kmW_199 : x_Lok xM xN RL 199 0 4364 := ⟨_, rfl, mkX12_season, x_in 1921 rfl rfl, x_in 1922 rfl rfl, x_in 1923 rfl rfl, ⟨(RX12, TX12, 48), rfl, rfl⟩, 3, rfl, mpX12_season⟩
set_option maxRecDepth 100000 in
theorem kmW_200 : x_Lok xM xN RL 200 0 2539 := ⟨_, rfl, mkX11_keep, x_in 1248 rfl rfl, x_in 1249 rfl rfl, x_in 1250 rfl rfl, ⟨(RX11, TX11, 17), rfl, rfl⟩, 1, rfl, mpX11_keep⟩
set_option maxRecDepth 100000 in
theorem kmW_203 : x_Lok xM xN RL 203 0 4380 := ⟨_, rfl, mkX12_keep, x_in 1925 rfl rfl, x_in 1926 rfl rfl, x_in 1927 rfl rfl, ⟨(RX12, TX12, 48), rfl, rfl⟩, 1, rfl, mpX12_keep⟩
set_option maxRecDepth 100000 in
theorem kmW_204 : x_Lok xM xN RL 204 0 2555 := ⟨_, rfl, mkX11_again, x_in 1252 rfl rfl, x_in 1253 rfl rfl, x_in 1254 rfl rfl, ⟨(RX11, TX11, 17), rfl, rfl⟩, 1, rfl, mpX11_again⟩
set_option maxRecDepth 100000 in
theorem kmW_207 : x_Lok xM xN RL 207 0 4396 := ⟨_, rfl, mkX12_again, x_in 1929 rfl rfl, x_in 1930 rfl rfl, x_in 1931 rfl rfl, ⟨(RX12, TX12, 48), rfl, rfl⟩, 1, rfl, mpX12_again⟩
set_option maxRecDepth 100000 in
theorem kmW_208 : x_Lok xM xN RL 208 0 2571 := ⟨_, rfl, mkX11_count, x_in 1256 rfl rfl, x_in 1257 rfl rfl, x_in 1258 rfl rfl, ⟨(RX11, TX11, 17), rfl, rfl⟩, 1, rfl, mpX11_count⟩
set_option maxRecDepth 100000 in
theorem kmW_211 : x_Lok xM xN RL 211 0 4428 := ⟨_, rfl, mkX12_count, x_in 1933 rfl rfl, x_in 1934 rfl rfl, x_in 1935 rfl rfl, ⟨(RX12, TX12, 48), rfl, rfl⟩, 1, rfl, mpX12_count⟩
set_option maxRecDepth 100000 in
theorem kmW_215 : x_Lok xM xN RL 215 0 4444 := ⟨_, rfl, mkX12_row, x_in 1941 rfl rfl, x_in 1942 rfl rfl, x_in 1943 rfl rfl, ⟨(RX12, TX12, 48), rfl, rfl⟩, 1, rfl, mpX12_row⟩
set_option maxRecDepth 100000 in
theorem knW_8 : x_Nok RL 8 11 := ⟨(RX11, TX11, 17), rfl, ckX11, x_in 115 rfl rfl, x_in 116 rfl rfl, x_in 89 rfl rfl⟩
set_option maxRecDepth 100000 in
theorem knW_26 : x_Nok RL 26 12 := ⟨(RX12, TX12, 48), rfl, ckX12, x_in 1363 rfl rfl, x_in 1364 rfl rfl, x_in 101 rfl rfl⟩
def KW : xK := (RL, [], [(7, 0, 1723), (15, 0, 1739), (18, 0, 1755), (21, 0, 2587), (25, 4, 1627), (28, 4, 2716), (29, 0, 1643), (32, 0, 2860), (33, 0, 1659), (37, 0, 2876), (38, 0, 1675), (42, 0, 3068), (43, 0, 1691), (46, 0, 3084), (47, 0, 1707), (50, 0, 3180), (56, 0, 3212), (57, 0, 2732), (62, 0, 3228), (65, 0, 3244), (66, 0, 1771), (69, 0, 3276), (70, 0, 1787), (74, 0, 3292), (75, 0, 1851), (78, 0, 3484), (79, 0, 1867), (82, 0, 3532), (83, 0, 1883), (86, 0, 3548), (87, 0, 1899), (90, 0, 3596), (91, 0, 1915), (94, 0, 3612), (95, 0, 1931), (98, 0, 3644), (99, 0, 1947), (102, 0, 3708), (103, 0, 1963), (106, 0, 3724), (107, 0, 1979), (110, 0, 3740), (111, 0, 1995), (114, 0, 3788), (115, 0, 2059), (118, 0, 3820), (119, 0, 2075), (122, 0, 3852), (123, 0, 2091), (126, 0, 3868), (127, 0, 2107), (130, 0, 3900), (131, 0, 2123), (134, 0, 3916), (135, 0, 2139), (138, 0, 3932), (139, 0, 2155), (142, 0, 3964), (143, 0, 2203), (147, 0, 4044), (148, 0, 2219), (151, 0, 4076), (152, 0, 2235), (155, 0, 4092), (156, 0, 2251), (159, 0, 4124), (160, 0, 2331), (163, 0, 4156), (164, 0, 2347), (167, 0, 4172), (168, 0, 2379), (171, 0, 4204), (172, 0, 2395), (175, 0, 4220), (176, 0, 2427), (179, 0, 4236), (180, 0, 2443), (183, 0, 4284), (184, 0, 2459), (187, 0, 4316), (188, 0, 2475), (191, 0, 4332), (192, 0, 2491), (195, 0, 4348), (196, 0, 2523), (199, 0, 4364), (200, 0, 2539), (203, 0, 4380), (204, 0, 2555), (207, 0, 4396), (208, 0, 2571), (211, 0, 4428), (215, 0, 4444)], [(8, 11), (26, 12)], [], [], [])
set_option maxRecDepth 100000 in
theorem k2W : ∀ q ∈ KW.2.2.1, if q.2.1 = 6 then x_Ook KW.1 q.1 else x_Lok xM xN KW.1 q.1 q.2.1 q.2.2 := List.forall_mem_cons.mpr ⟨kmW_7, List.forall_mem_cons.mpr ⟨kmW_15, List.forall_mem_cons.mpr ⟨kmW_18, List.forall_mem_cons.mpr ⟨kmW_21, List.forall_mem_cons.mpr ⟨kmW_25, List.forall_mem_cons.mpr ⟨kmW_28, List.forall_mem_cons.mpr ⟨kmW_29, List.forall_mem_cons.mpr ⟨kmW_32, List.forall_mem_cons.mpr ⟨kmW_33, List.forall_mem_cons.mpr ⟨kmW_37, List.forall_mem_cons.mpr ⟨kmW_38, List.forall_mem_cons.mpr ⟨kmW_42, List.forall_mem_cons.mpr ⟨kmW_43, List.forall_mem_cons.mpr ⟨kmW_46, List.forall_mem_cons.mpr ⟨kmW_47, List.forall_mem_cons.mpr ⟨kmW_50, List.forall_mem_cons.mpr ⟨kmW_56, List.forall_mem_cons.mpr ⟨kmW_57, List.forall_mem_cons.mpr ⟨kmW_62, List.forall_mem_cons.mpr ⟨kmW_65, List.forall_mem_cons.mpr ⟨kmW_66, List.forall_mem_cons.mpr ⟨kmW_69, List.forall_mem_cons.mpr ⟨kmW_70, List.forall_mem_cons.mpr ⟨kmW_74, List.forall_mem_cons.mpr ⟨kmW_75, List.forall_mem_cons.mpr ⟨kmW_78, List.forall_mem_cons.mpr ⟨kmW_79, List.forall_mem_cons.mpr ⟨kmW_82, List.forall_mem_cons.mpr ⟨kmW_83, List.forall_mem_cons.mpr ⟨kmW_86, List.forall_mem_cons.mpr ⟨kmW_87, List.forall_mem_cons.mpr ⟨kmW_90, List.forall_mem_cons.mpr ⟨kmW_91, List.forall_mem_cons.mpr ⟨kmW_94, List.forall_mem_cons.mpr ⟨kmW_95, List.forall_mem_cons.mpr ⟨kmW_98, List.forall_mem_cons.mpr ⟨kmW_99, List.forall_mem_cons.mpr ⟨kmW_102, List.forall_mem_cons.mpr ⟨kmW_103, List.forall_mem_cons.mpr ⟨kmW_106, List.forall_mem_cons.mpr ⟨kmW_107, List.forall_mem_cons.mpr ⟨kmW_110, List.forall_mem_cons.mpr ⟨kmW_111, List.forall_mem_cons.mpr ⟨kmW_114, List.forall_mem_cons.mpr ⟨kmW_115, List.forall_mem_cons.mpr ⟨kmW_118, List.forall_mem_cons.mpr ⟨kmW_119, List.forall_mem_cons.mpr ⟨kmW_122, List.forall_mem_cons.mpr ⟨kmW_123, List.forall_mem_cons.mpr ⟨kmW_126, List.forall_mem_cons.mpr ⟨kmW_127, List.forall_mem_cons.mpr ⟨kmW_130, List.forall_mem_cons.mpr ⟨kmW_131, List.forall_mem_cons.mpr ⟨kmW_134, List.forall_mem_cons.mpr ⟨kmW_135, List.forall_mem_cons.mpr ⟨kmW_138, List.forall_mem_cons.mpr ⟨kmW_139, List.forall_mem_cons.mpr ⟨kmW_142, List.forall_mem_cons.mpr ⟨kmW_143, List.forall_mem_cons.mpr ⟨kmW_147, List.forall_mem_cons.mpr ⟨kmW_148, List.forall_mem_cons.mpr ⟨kmW_151, List.forall_mem_cons.mpr ⟨kmW_152, List.forall_mem_cons.mpr ⟨kmW_155, List.forall_mem_cons.mpr ⟨kmW_156, List.forall_mem_cons.mpr ⟨kmW_159, List.forall_mem_cons.mpr ⟨kmW_160, List.forall_mem_cons.mpr ⟨kmW_163, List.forall_mem_cons.mpr ⟨kmW_164, List.forall_mem_cons.mpr ⟨kmW_167, List.forall_mem_cons.mpr ⟨kmW_168, List.forall_mem_cons.mpr ⟨kmW_171, List.forall_mem_cons.mpr ⟨kmW_172, List.forall_mem_cons.mpr ⟨kmW_175, List.forall_mem_cons.mpr ⟨kmW_176, List.forall_mem_cons.mpr ⟨kmW_179, List.forall_mem_cons.mpr ⟨kmW_180, List.forall_mem_cons.mpr ⟨kmW_183, List.forall_mem_cons.mpr ⟨kmW_184, List.forall_mem_cons.mpr ⟨kmW_187, List.forall_mem_cons.mpr ⟨kmW_188, List.forall_mem_cons.mpr ⟨kmW_191, List.forall_mem_cons.mpr ⟨kmW_192, List.forall_mem_cons.mpr ⟨kmW_195, List.forall_mem_cons.mpr ⟨kmW_196, List.forall_mem_cons.mpr ⟨kmW_199, List.forall_mem_cons.mpr ⟨kmW_200, List.forall_mem_cons.mpr ⟨kmW_203, List.forall_mem_cons.mpr ⟨kmW_204, List.forall_mem_cons.mpr ⟨kmW_207, List.forall_mem_cons.mpr ⟨kmW_208, List.forall_mem_cons.mpr ⟨kmW_211, List.forall_mem_cons.mpr ⟨kmW_215, fun _ h => absurd h List.not_mem_nil⟩⟩⟩⟩⟩⟩⟩⟩⟩⟩⟩⟩⟩⟩⟩⟩⟩⟩⟩⟩⟩⟩⟩⟩⟩⟩⟩⟩⟩⟩⟩⟩⟩⟩⟩⟩⟩⟩⟩⟩⟩⟩⟩⟩⟩⟩⟩⟩⟩⟩⟩⟩⟩⟩⟩⟩⟩⟩⟩⟩⟩⟩⟩⟩⟩⟩⟩⟩⟩⟩⟩⟩⟩⟩⟩⟩⟩⟩⟩⟩⟩⟩⟩⟩⟩⟩⟩⟩⟩⟩⟩⟩⟩
set_option maxRecDepth 100000 in
theorem k3W : ∀ q ∈ KW.2.2.2.1, x_Nok KW.1 q.1 q.2 := List.forall_mem_cons.mpr ⟨knW_8, List.forall_mem_cons.mpr ⟨knW_26, fun _ h => absurd h List.not_mem_nil⟩⟩
theorem kkW : x_Kok xM xN KW := ⟨fun _ h => absurd h List.not_mem_nil, k2W, k3W, fun _ h => absurd h List.not_mem_nil, fun _ h => absurd h List.not_mem_nil, fun _ h => absurd h List.not_mem_nil⟩
/-! the call of a method that has handlers -/
def p_no : xP := fun _ => none
theorem x_ino {E : xE} {pc nx : Nat} {brs : List Nat} : x_Imp E p_no pc nx brs := by
  intro _ t fl t' h
  cases h
/-- what a method with handlers does, in d frames -/
def x_SndW (l : Launch) (D : va_G) (y : MethodName) (ws : List Cond) (P : List xV → xH → Option (Option xV × xH)) (d : Nat) : Prop :=
  ∀ a H r H', P a H = some (r, H') → x_gr H H' ∧ ∀ (ad pl : Nat → Nat → Nat) (tys : List (ClassId × FieldType)) (ws0 : va_W) (sz : Nat), x_W H ad pl tys ws0 → (∀ v ∈ a, x_ok H v) →
    Met l y ws ({ frames := d, cells := xnc H' - xnc H, slots := xns H' - xns H, locals := 40 * d }) (x_Pc xN D a ad tys ws0 sz) (x_Q D r H H' ad ws0 sz) (xnc H' - xnc H) (xns H' - xns H) (va_A ws0 sz)
theorem x_metW {K : xK} {d nL : Nat} {l : Launch} {D : va_G} {y : MethodName} {cc : ByteArray} {hh : List (Nat × Nat × Nat × Nat)} {a : List xV} {H H' : xH} {r : Option xV} (hpn : plainName y.cls = true) (hown : K.1 = y.cls) (hd : 1 ≤ d) (hK : x_Kok xM xN K) (hlen : (x_args a).length ≤ nL)
    (body : ∀ (p : Program) (e : Env) (R : Room) (s : State) (m : MethodId) (args : Array Value) (below : List Frame) (meth : Method) (c : Code) (Q : State → Prop) (A : Nat → Prop) (ad : Nat → Nat → Nat), x_Ctx xM xN K false cc d p R s m args meth c A nL → c.exceptionTable.toList = tableOf hh →
      x_Fin (some .int) R s args below meth Q D A H ad r H' → x_At p l e R s m args below meth c Q D A nL H ad 0 (x_args a ++ List.replicate (nL - (x_args a).length) (.inr (.inr (.inr 2))), [], H))
    (ad pl : Nat → Nat → Nat) (tys : List (ClassId × FieldType)) (ws : va_W) (sz : Nat) (h1 : x_W H ad pl tys ws) (hok : ∀ v ∈ a, x_ok H v) :
    Met l y (Cond.codeWith y cc nL (some .int) hh :: xT) ({ frames := d, cells := xnc H' - xnc H, slots := xns H' - xns H, locals := 40 * d }) (x_Pc xN D a ad tys ws sz) (x_Q D r H H' ad ws sz) (xnc H' - xnc H) (xns H' - xns H) (va_A ws sz) := by
  refine va_MetW (cc := cc) (maxL := nL) (ret := some .int) (hh := hh) hpn rfl ?_
  intro p e s m args below meth c s₁ B hml hv
  obtain ⟨rfl, hsz, hP, hKc, hD0, henv, hstr⟩ := hv
  have hts := atoms_spec (ws := Cond.codeWith y cc nL (some .int) hh :: xT) B.pre
  have htab := vx_table (x := y) B (hts _ List.mem_cons_self)
  have hl := lv_entry (a.map (x_cv ad)) (n := nL) (by rw [x_sl]; exact hlen)
  rw [lg_entry_eq]
  generalize (lg_sl (a.map (x_cv ad)) ++ List.replicate (nL - (lg_sl (a.map (x_cv ad))).length) Slot.unset).toArray = ls at hl ⊢
  subst hsz
  have X : x_Ctx xM xN K false cc d p (headSpec (Cond.codeWith y cc nL (some .int) hh :: xT) { frames := d, cells := xnc H' - xnc H, slots := xns H' - xns H, locals := 40 * d }).room s m (a.map (x_cv ad)).toArray meth c (va_A ws s.heap.size) nL :=
    ⟨B.exec, B.bytes, hml, by rw [hown]; exact findClass_of_methodNamed B.named, fun w hw => hts w (List.mem_cons_of_mem _ hw), henv, fun q h => Or.inr h, ⟨rfl, rfl, hd⟩, (fun z => by cases z), hK, x_arr, hstr⟩
  have F : x_Fin (some .int) (headSpec (Cond.codeWith y cc nL (some .int) hh :: xT) { frames := d, cells := xnc H' - xnc H, slots := xns H' - xns H, locals := 40 * d }).room s (a.map (x_cv ad)).toArray below meth (MQ below (x_Q D r H H' ad ws s.heap.size) (a.map (x_cv ad)).toArray s (xnc H' - xnc H) (xns H' - xns H) (va_A ws s.heap.size)) D (va_A ws s.heap.size) H ad r H' :=
    ⟨ws, rfl, rfl, rfl, rfl, B.returns, B.notSynchronized⟩
  have fin := body p e _ s m _ below meth c _ _ ad X htab F
  have := fin.2 ⟨?_, ?_, (fun w hw => by cases hw), x_gr.rf _⟩ ad pl tys ws s.heap [] ls h1 (fun _ _ _ => rfl) hP (hD0.self (sz := s.heap.size)) hKc va_S.rf ⟨hl.1, hl.2.1, fun i w hw hn => ?_⟩
  · dsimp only at this
    rw [Nat.sub_self, Nat.sub_self] at this
    exact this
  · dsimp only
    rw [List.length_append, List.length_replicate]
    omega
  · intro w hw
    rcases List.mem_append.mp hw with hw | hw
    · rcases x_args_in hw with h9 | h9
      · exact Or.inr (hok w h9)
      · exact Or.inl h9
    · exact Or.inl (List.mem_replicate.mp hw).2
  · by_cases z : i < (x_args a).length
    · rw [List.getElem?_append_left z] at hw
      have := x_entry (H := H) ad a i w 0 hw hn
      rw [Nat.zero_add] at this
      exact hl.2.2 _ this
    · rw [List.getElem?_append_right (by omega)] at hw
      exact absurd (List.eq_of_mem_replicate (List.mem_of_getElem? hw)) hn
def p_hc (n : Nat) (P : List xV → xH → Option (Option xV × xH)) : xP := fun s => (x_call n P s).map fun t => (.inl 0, t)
theorem x_ihc {K : xK} {cc : ByteArray} {d nL d' n idx maxL : Nat} {ret : Option FieldType} {l0 : Launch} {D0 : va_G} {G : xG} {pc nx : Nat} {brs : List Nat} {y : MethodName} {bytes : ByteArray} {hh : List (Nat × Nat × Nat × Nat)} {P : List xV → xH → Option (Option xV × xH)}
    (hS : x_SndW l0 D0 y (Cond.codeWith y bytes maxL (some .int) hh :: xT) P d') (hd : d' + 1 ≤ d) (w0 : Cond.codeWith y bytes maxL (some .int) hh ∈ xT) (w1 : Cond.methodLink K.1 idx y ∈ xT) (w2 : Cond.static y ∈ xT) (w3 : Cond.initialized y.cls ∈ xT)
    (hy : y.cls ≠ "java/lang/invoke/MethodHandle" ∧ y.cls ≠ "java/lang/invoke/VarHandle") (hpar : (parseMethodDescriptor y.desc).map (fun d => d.parameters.length) = some n) (hmx : maxL ≤ 21)
    (hdg : decode cc pc = .ok (.invokestatic idx, 3)) (hl : x_land cc 3 (pc + 3) nx = true) : x_Imp (xM, xN, K, false, cc, d, nL, ret, l0, D0, G) (p_hc n P) pc nx brs := by
  intro hG t fl t' h
  unfold p_hc at h
  obtain ⟨t1, h1, h2⟩ := Option.map_eq_some_iff.mp h
  simp only [Prod.mk.injEq] at h2
  obtain ⟨rfl, rfl⟩ := h2
  obtain ⟨L, S, H⟩ := t
  obtain ⟨i1, i2, r, H', hf, rfl⟩ := x_call_inv h1
  obtain ⟨hg, hMet⟩ := hS _ H r H' hf
  refine ⟨hg, fun p e R s m args below meth c Q A H0 ad0 X k => ?_⟩
  obtain ⟨q, hq, k⟩ := k
  cases hq
  have k := x_goto X.1 X.2.1 3 _ _ _ hl k
  obtain ⟨hx, hb, hml, hown, hts, henv, hA, hR, -, -, -, hstr⟩ := X
  refine x_mvC hA hg k (fun v hv => List.mem_of_mem_drop hv) (fun hok ad pl tys ws Hc locs ls cells slots h1 h3 h4 h5 h6 hAA h7 hc1 hc2 => ?_)
  have hm1 := hMet ad pl tys ws Hc.size h1 (fun v hv => hok v (List.mem_of_mem_take (List.mem_reverse.mp hv)))
  have hst : S.map (x_cv ad) = ((S.take n).reverse.map (x_cv ad)).reverse ++ (S.drop n).map (x_cv ad) := by
    rw [List.map_reverse, List.reverse_reverse, ← List.map_append, List.take_append_drop]
  have hlen : ((S.take n).reverse.map (x_cv ad)).length = n := by
    rw [List.length_map, List.length_reverse, List.length_take]
    omega
  have hcat : 2 * (F0 m pc ls (S.map (x_cv ad))).monitorRoom + (((S.drop n).map (x_cv ad)).map fun v => v.category).sum ≤ 8 := by
    rw [x_cats]
    exact Nat.le_trans (by show 2 * 0 + _ ≤ _; omega) i2
  have hpre : PreS s Hc (x_Pc xN D0 (S.take n).reverse ad tys ws Hc.size) ((S.take n).reverse.map (x_cv ad)) :=
    ⟨x_blind _ _ _ _ _ _ _, fun U hU hW => ⟨rfl, by rw [hU], by rw [hU]; exact h3, va_K.moved hW.alike h5, h4.weaken (fun _ _ _ _ => trivial), henv.warm hW, hstr.to h6 hU hW hAA⟩⟩
  have hgd : GoodIn xT (va_wsS K.1 idx y (Cond.codeWith y bytes maxL (some .int) hh :: xT)) := by
    intro w hw
    unfold va_wsS at hw
    rcases List.mem_append.mp hw with hw | hw
    · simp only [List.mem_cons, List.not_mem_nil, or_false] at hw
      rcases hw with rfl | rfl | rfl
      · exact ⟨w1, x_good w1⟩
      · exact ⟨w2, x_good w2⟩
      · exact ⟨w3, x_good w3⟩
    · rcases List.mem_cons.mp hw with rfl | hw
      · exact ⟨w0, x_good w0⟩
      · exact ⟨hw, x_good hw⟩
  exact ⟨_, vx_runSW (As := (S.take n).reverse.map (x_cv ad)) (rest := (S.drop n).map (x_cv ad)) ⟨hx, hb, hml, hown, hts⟩ hm1 (vx_cwSW n hts hgd rfl rfl rfl ⟨hy.1, hy.2, hpar⟩ (x_room hR hd hmx)) hpre rfl hlen h7.1 hst hcat hdg ⟨hc1, hc2⟩⟩
theorem x_isc_inv {H : xH} {k j ci : Nat} (h : x_isc H k j ci = true) : ∃ fs, xcell H k j = some (.inl (ci, fs)) := by
  unfold x_isc at h
  split at h
  · rename_i ci' fs hc
    have e : ci' = ci := by simpa using h
    subst e
    exact ⟨fs, hc⟩
  · cases h
/-- a helper of three arguments and a row for the answer -/
def h_P3 (f : xP) (a : List xV) (H : xH) : Option (Option xV × xH) := match a with
  | [.inr (.inr (.inl (kx, jx))), .inl p0, .inl p1, .inr (.inr (.inl (ko, jo)))] => if x_isc H kx jx 11 = true then
      match f ([.inr (.inr (.inl (kx, jx))), .inl p0, .inl p1, .inr (.inr (.inr 2))], [], H) with
      | some (.inr (some (.inl v)), (_, _, H1)) => match xcell H1 ko jo with
        | some (.inr (.inl (3, mo, g))) => if 0 < mo then some (some (.inl 0), xput H1 ko jo (.inr (.inl (3, mo, xfu g 0 v)))) else none
        | _ => none
      | some (.inl (k + 1), (_, [], H1)) => if k < 2 then some (some (.inl 1), xcount H1 6) else none
      | _ => none
    else none
  | _ => none
def h_P2 (f : xP) (a : List xV) (H : xH) : Option (Option xV × xH) := match a with
  | [.inr (.inr (.inl (kx, jx))), .inl p0, .inr (.inr (.inl (ko, jo)))] => if x_isc H kx jx 11 = true then
      match f ([.inr (.inr (.inl (kx, jx))), .inl p0], [], H) with
      | some (.inr (some (.inl v)), (_, _, H1)) => match xcell H1 ko jo with
        | some (.inr (.inl (3, mo, g))) => if 0 < mo then some (some (.inl 0), xput H1 ko jo (.inr (.inl (3, mo, xfu g 0 v)))) else none
        | _ => none
      | some (.inl (k + 1), (_, [], H1)) => if k < 1 then some (some (.inl 1), xcount H1 6) else none
      | _ => none
    else none
  | _ => none
noncomputable def h_q3 (G : xG) (q : Nat) : xP := p_sq (p_ops x_dd G 0 [.aload 3, .iconst 0, .aload 0, .iload 1, .iload 2, .invokevirtual q, .i2l, .lastore]) (p_sq (p_ops x_dd G 0 [.iconst 0]) p_ri)
noncomputable def h_q2 (G : xG) (q : Nat) : xP := p_sq (p_ops x_dd G 0 [.aload 2, .iconst 0, .aload 0, .iload 1, .invokevirtual q, .i2l, .lastore]) (p_sq (p_ops x_dd G 0 [.iconst 0]) p_ri)

/-! boat -/
noncomputable def h_boat (N : Nat) : List xV → xH → Option (Option xV × xH) := h_P3 (fX11_boat (gg N))
set_option maxRecDepth 100000 in
theorem wW_boat : Cond.codeWith yL_boat cL_boat 5 (some .int) [(0, 10, 13, 13)] ∈ xT ∧ Cond.methodLink RL 51 yL_boat ∈ xT ∧ Cond.static yL_boat ∈ xT := ⟨x_in 1270 rfl rfl, x_in 1268 rfl rfl, x_in 1269 rfl rfl⟩
theorem tT_boat {N k : Nat} {l : Launch} {D : va_G} (hl : l.stackTraces = false) (hN : 1 ≤ N) (hk : k < 2) {rx : Nat × Nat} {p0 p1 : Int} {L' : List xV} {H H' : xH} (hf : fX11_boat (gg N) ([.inr (.inr (.inl rx)), .inl p0, .inl p1, .inr (.inr (.inr 2))], [], H) = some (.inl (k + 1), (L', [], H'))) :
    x_Thr l D (yX11_boat, cX11_boat, 4, (some .int), 3) (N + 5) [.inr (.inr (.inl rx)), .inl p0, .inl p1] H H' := by
  have hk2 : k = 0 ∨ k = 1 := by omega
  rcases hk2 with rfl | rfl
  · exact x_thr (k := 0) (a := [.inr (.inr (.inl rx)), .inl p0, .inl p1]) hl (iX11_boat (N + 5) l D (gg N)) (gg_ok l D N) rfl rfl rfl (by omega) rfl (by decide +kernel) (by decide +kernel) (by decide +kernel) (by decide +kernel) (Nat.le_of_ble_eq_true rfl) hf
  · exact x_thr (k := 1) (a := [.inr (.inr (.inl rx)), .inl p0, .inl p1]) hl (iX11_boat (N + 5) l D (gg N)) (gg_ok l D N) rfl rfl rfl (by omega) rfl (by decide +kernel) (by decide +kernel) (by decide +kernel) (by decide +kernel) (Nat.le_of_ble_eq_true rfl) hf
set_option maxRecDepth 100000 in
theorem iW_boat (d : Nat) (l : Launch) (D : va_G) (G : xG) : x_Imp (xM, xN, KW, false, cL_boat, d, 5, (some .int), l, D, G) (h_q3 G 1723) 0 0 [] := x_isq 17 (x_iops (pc' := 10) (by decide +kernel) (by decide +kernel)) (x_isq 18 (x_iops (pc' := 18) (by decide +kernel) rfl) (x_iri (by decide +kernel) rfl))
theorem eW_boat {N : Nat} {kx jx ko jo mo : Nat} {p0 p1 v : Int} {g : Nat → Int} {L1 S1 : List xV} {H H1 : xH} (hi : x_isc H kx jx 11 = true) (hf : fX11_boat (gg N) ([.inr (.inr (.inl (kx, jx))), .inl p0, .inl p1, .inr (.inr (.inr 2))], [], H) = some (.inr (some (.inl v)), (L1, S1, H1))) (ho : xcell H1 ko jo = some (.inr (.inl (3, mo, g)))) (hm : 0 < mo) :
    h_q3 (gg (N + 1)) 1723 ([.inr (.inr (.inl (kx, jx))), .inl p0, .inl p1, .inr (.inr (.inl (ko, jo))), .inr (.inr (.inr 2))], [], H) = some (.inr (some (.inl 0)), ([.inr (.inr (.inl (kx, jx))), .inl p0, .inl p1, .inr (.inr (.inl (ko, jo))), .inr (.inr (.inr 2))], [], xput H1 ko jo (.inr (.inl (3, mo, xfu g 0 v))))) := by
  have hc : (gg (N + 1) 107).2 [.inr (.inr (.inl (kx, jx))), .inl p0, .inl p1] H = some (some (.inl v), H1) := by
    rw [gb107]
    show (match fX11_boat (gg N) ([.inr (.inr (.inl (kx, jx))), .inl p0, .inl p1, .inr (.inr (.inr 2))], [], H) with
      | some (.inr v, t) => some (v, t.2.2)
      | _ => none) = _
    rw [hf]
  have h0 : (0 : Int) < (mo : Int) := by omega
  unfold h_q3 p_sq p_ops
  simp only [e_al, e_iconst, e_il, List.getElem?_cons_zero, List.getElem?_cons_succ]
  rw [ec107 (by simp [xcat]) hi, hc]
  simp only [Option.bind_some, Option.toList_some, List.cons_append, List.nil_append, e_i2l]
  rw [e_lastore ho (Int.le_refl 0) h0]
  rfl
theorem sW_boat {N : Nat} {l : Launch} {D : va_G} (hl : l.stackTraces = false) (hN : 1 ≤ N) : x_SndW l D yL_boat (Cond.codeWith yL_boat cL_boat 5 (some .int) [(0, 10, 13, 13)] :: xT) (h_boat N) (N + 6) := by
  intro a H r H' h
  unfold h_boat h_P3 at h
  split at h
  · rename_i kx jx p0 p1 ko jo
    split at h
    · rename_i hi
      split at h
      · rename_i v L1 S1 H1 hf
        split at h
        · rename_i mo g ho
          split at h
          · rename_i hm
            cases h
            have ev := eW_boat hi hf ho hm
            obtain ⟨g1, w1⟩ := iW_boat (N + 6) l D (gg (N + 1)) (gg_ok l D (N + 1)) _ _ _ ev
            exact ⟨g1, x_metW (K := KW) (a := [.inr (.inr (.inl (kx, jx))), .inl p0, .inl p1, .inr (.inr (.inl (ko, jo)))]) rfl rfl (by omega) kkW (Nat.le_of_ble_eq_true rfl) (fun p e R s m args below meth c Q A ad X _ F => w1 p e R s m args below meth c Q A H ad X F)⟩
          · cases h
        · cases h
      · rename_i k L1 H1 hf
        split at h
        · rename_i hk
          cases h
          have hT := tT_boat (D := D) hl hN hk hf
          obtain ⟨fs, hcl⟩ := x_isc_inv hi
          refine ⟨hT.1.tr (x_gr.count H1 6), x_metW (K := KW) (a := [.inr (.inr (.inl (kx, jx))), .inl p0, .inl p1, .inr (.inr (.inl (ko, jo)))]) rfl rfl (by omega) kkW (Nat.le_of_ble_eq_true rfl) (fun p e R s m args below meth c Q A ad X htab F => ?_)⟩
          have k15 : x_At p l e R s m args below meth c Q D A 5 H ad (13 + 2) ([.inr (.inr (.inl (kx, jx))), .inl p0, .inl p1, .inr (.inr (.inl (ko, jo))), .inr (.inr (.inr 2))], [], xcount H1 6) :=
            ((x_isq 16 (x_iops (pc' := 16) (by decide +kernel) rfl) (x_iri (by decide +kernel) rfl) : x_Imp (xM, xN, KW, false, cL_boat, N + 6, 5, (some .int), l, D, gg (N + 1)) (p_sq (p_ops x_dd (gg (N + 1)) 0 [.iconst 1]) p_ri) 15 0 []) (gg_ok l D (N + 1)) ([.inr (.inr (.inl (kx, jx))), .inl p0, .inl p1, .inr (.inr (.inl (ko, jo))), .inr (.inr (.inr 2))], [], xcount H1 6) (.inr (some (.inl 1))) ([.inr (.inr (.inl (kx, jx))), .inl p0, .inl p1, .inr (.inr (.inl (ko, jo))), .inr (.inr (.inr 2))], [], xcount H1 6) rfl).2 p e R s m args below meth c Q A H ad X F
          have k5 := x_hX (S := [.inl p1, .inl p0, .inr (.inr (.inl (kx, jx))), .inl 0, .inr (.inr (.inl (ko, jo)))]) (q := 1723) (n := 2) (i := 4) (len := 2) (hp := 13) (pc := 5) X rfl rfl kmW_7 (by decide +kernel) (Nat.le_refl _) rfl rfl hcl (Nat.le_of_ble_eq_true rfl) hT (x := ⟨0, 10, 13, 13⟩) htab (by decide) rfl rfl (fun z lv Hc locs ls cells slots hlv kk => lv_astore X.1 X.2.1 (by decide +kernel) hlv (by decide) rfl kk) rfl (fun j hj n hn => by
            have : j = 3 := by omega
            subst this
            cases hn) k15
          exact ((x_iops (pc' := 5) (by decide +kernel) rfl : x_Imp (xM, xN, KW, false, cL_boat, N + 6, 5, (some .int), l, D, gg (N + 1)) (p_ops x_dd (gg (N + 1)) 0 [.aload 3, .iconst 0, .aload 0, .iload 1, .iload 2]) 0 5 []) (gg_ok l D (N + 1)) ([.inr (.inr (.inl (kx, jx))), .inl p0, .inl p1, .inr (.inr (.inl (ko, jo))), .inr (.inr (.inr 2))], [], H) (.inl 0) _ rfl).2 p e R s m args below meth c Q A H ad X ⟨5, rfl, k5⟩
        · cases h
      · cases h
    · cases h
  · cases h
theorem x_ih_boat {N d nL : Nat} {l : Launch} {D : va_G} {cc : ByteArray} {ret : Option FieldType} {G : xG} {pc nx : Nat} {brs : List Nat} (hl : l.stackTraces = false) (hN : 1 ≤ N) (hd : N + 7 ≤ d) (hdg : decode cc pc = .ok (.invokestatic 51, 3)) (hln : x_land cc 3 (pc + 3) nx = true) : x_Imp (xM, xN, KW, false, cc, d, nL, ret, l, D, G) (p_hc 4 (h_boat N)) pc nx brs :=
  x_ihc (sW_boat hl hN) hd wW_boat.1 wW_boat.2.1 wW_boat.2.2 x_wL ⟨by decide, by decide⟩ (by decide +kernel) (by decide) hdg hln

/-! gull -/
noncomputable def h_gull (N : Nat) : List xV → xH → Option (Option xV × xH) := h_P3 (fX11_gull (gg N))
set_option maxRecDepth 100000 in
theorem wW_gull : Cond.codeWith yL_gull cL_gull 5 (some .int) [(0, 10, 13, 13)] ∈ xT ∧ Cond.methodLink RL 60 yL_gull ∈ xT ∧ Cond.static yL_gull ∈ xT := ⟨x_in 1343 rfl rfl, x_in 1341 rfl rfl, x_in 1342 rfl rfl⟩
theorem tT_gull {N k : Nat} {l : Launch} {D : va_G} (hl : l.stackTraces = false) (hN : 1 ≤ N) (hk : k < 2) {rx : Nat × Nat} {p0 p1 : Int} {L' : List xV} {H H' : xH} (hf : fX11_gull (gg N) ([.inr (.inr (.inl rx)), .inl p0, .inl p1, .inr (.inr (.inr 2))], [], H) = some (.inl (k + 1), (L', [], H'))) :
    x_Thr l D (yX11_gull, cX11_gull, 4, (some .int), 3) (N + 5) [.inr (.inr (.inl rx)), .inl p0, .inl p1] H H' := by
  have hk2 : k = 0 ∨ k = 1 := by omega
  rcases hk2 with rfl | rfl
  · exact x_thr (k := 0) (a := [.inr (.inr (.inl rx)), .inl p0, .inl p1]) hl (iX11_gull (N + 5) l D (gg N)) (gg_ok l D N) rfl rfl rfl (by omega) rfl (by decide +kernel) (by decide +kernel) (by decide +kernel) (by decide +kernel) (Nat.le_of_ble_eq_true rfl) hf
  · exact x_thr (k := 1) (a := [.inr (.inr (.inl rx)), .inl p0, .inl p1]) hl (iX11_gull (N + 5) l D (gg N)) (gg_ok l D N) rfl rfl rfl (by omega) rfl (by decide +kernel) (by decide +kernel) (by decide +kernel) (by decide +kernel) (Nat.le_of_ble_eq_true rfl) hf
set_option maxRecDepth 100000 in
theorem iW_gull (d : Nat) (l : Launch) (D : va_G) (G : xG) : x_Imp (xM, xN, KW, false, cL_gull, d, 5, (some .int), l, D, G) (h_q3 G 1739) 0 0 [] := x_isq 17 (x_iops (pc' := 10) (by decide +kernel) (by decide +kernel)) (x_isq 18 (x_iops (pc' := 18) (by decide +kernel) rfl) (x_iri (by decide +kernel) rfl))
theorem eW_gull {N : Nat} {kx jx ko jo mo : Nat} {p0 p1 v : Int} {g : Nat → Int} {L1 S1 : List xV} {H H1 : xH} (hi : x_isc H kx jx 11 = true) (hf : fX11_gull (gg N) ([.inr (.inr (.inl (kx, jx))), .inl p0, .inl p1, .inr (.inr (.inr 2))], [], H) = some (.inr (some (.inl v)), (L1, S1, H1))) (ho : xcell H1 ko jo = some (.inr (.inl (3, mo, g)))) (hm : 0 < mo) :
    h_q3 (gg (N + 1)) 1739 ([.inr (.inr (.inl (kx, jx))), .inl p0, .inl p1, .inr (.inr (.inl (ko, jo))), .inr (.inr (.inr 2))], [], H) = some (.inr (some (.inl 0)), ([.inr (.inr (.inl (kx, jx))), .inl p0, .inl p1, .inr (.inr (.inl (ko, jo))), .inr (.inr (.inr 2))], [], xput H1 ko jo (.inr (.inl (3, mo, xfu g 0 v))))) := by
  have hc : (gg (N + 1) 108).2 [.inr (.inr (.inl (kx, jx))), .inl p0, .inl p1] H = some (some (.inl v), H1) := by
    rw [gb108]
    show (match fX11_gull (gg N) ([.inr (.inr (.inl (kx, jx))), .inl p0, .inl p1, .inr (.inr (.inr 2))], [], H) with
      | some (.inr v, t) => some (v, t.2.2)
      | _ => none) = _
    rw [hf]
  have h0 : (0 : Int) < (mo : Int) := by omega
  unfold h_q3 p_sq p_ops
  simp only [e_al, e_iconst, e_il, List.getElem?_cons_zero, List.getElem?_cons_succ]
  rw [ec108 (by simp [xcat]) hi, hc]
  simp only [Option.bind_some, Option.toList_some, List.cons_append, List.nil_append, e_i2l]
  rw [e_lastore ho (Int.le_refl 0) h0]
  rfl
theorem sW_gull {N : Nat} {l : Launch} {D : va_G} (hl : l.stackTraces = false) (hN : 1 ≤ N) : x_SndW l D yL_gull (Cond.codeWith yL_gull cL_gull 5 (some .int) [(0, 10, 13, 13)] :: xT) (h_gull N) (N + 6) := by
  intro a H r H' h
  unfold h_gull h_P3 at h
  split at h
  · rename_i kx jx p0 p1 ko jo
    split at h
    · rename_i hi
      split at h
      · rename_i v L1 S1 H1 hf
        split at h
        · rename_i mo g ho
          split at h
          · rename_i hm
            cases h
            have ev := eW_gull hi hf ho hm
            obtain ⟨g1, w1⟩ := iW_gull (N + 6) l D (gg (N + 1)) (gg_ok l D (N + 1)) _ _ _ ev
            exact ⟨g1, x_metW (K := KW) (a := [.inr (.inr (.inl (kx, jx))), .inl p0, .inl p1, .inr (.inr (.inl (ko, jo)))]) rfl rfl (by omega) kkW (Nat.le_of_ble_eq_true rfl) (fun p e R s m args below meth c Q A ad X _ F => w1 p e R s m args below meth c Q A H ad X F)⟩
          · cases h
        · cases h
      · rename_i k L1 H1 hf
        split at h
        · rename_i hk
          cases h
          have hT := tT_gull (D := D) hl hN hk hf
          obtain ⟨fs, hcl⟩ := x_isc_inv hi
          refine ⟨hT.1.tr (x_gr.count H1 6), x_metW (K := KW) (a := [.inr (.inr (.inl (kx, jx))), .inl p0, .inl p1, .inr (.inr (.inl (ko, jo)))]) rfl rfl (by omega) kkW (Nat.le_of_ble_eq_true rfl) (fun p e R s m args below meth c Q A ad X htab F => ?_)⟩
          have k15 : x_At p l e R s m args below meth c Q D A 5 H ad (13 + 2) ([.inr (.inr (.inl (kx, jx))), .inl p0, .inl p1, .inr (.inr (.inl (ko, jo))), .inr (.inr (.inr 2))], [], xcount H1 6) :=
            ((x_isq 16 (x_iops (pc' := 16) (by decide +kernel) rfl) (x_iri (by decide +kernel) rfl) : x_Imp (xM, xN, KW, false, cL_gull, N + 6, 5, (some .int), l, D, gg (N + 1)) (p_sq (p_ops x_dd (gg (N + 1)) 0 [.iconst 1]) p_ri) 15 0 []) (gg_ok l D (N + 1)) ([.inr (.inr (.inl (kx, jx))), .inl p0, .inl p1, .inr (.inr (.inl (ko, jo))), .inr (.inr (.inr 2))], [], xcount H1 6) (.inr (some (.inl 1))) ([.inr (.inr (.inl (kx, jx))), .inl p0, .inl p1, .inr (.inr (.inl (ko, jo))), .inr (.inr (.inr 2))], [], xcount H1 6) rfl).2 p e R s m args below meth c Q A H ad X F
          have k5 := x_hX (S := [.inl p1, .inl p0, .inr (.inr (.inl (kx, jx))), .inl 0, .inr (.inr (.inl (ko, jo)))]) (q := 1739) (n := 2) (i := 4) (len := 2) (hp := 13) (pc := 5) X rfl rfl kmW_15 (by decide +kernel) (Nat.le_refl _) rfl rfl hcl (Nat.le_of_ble_eq_true rfl) hT (x := ⟨0, 10, 13, 13⟩) htab (by decide) rfl rfl (fun z lv Hc locs ls cells slots hlv kk => lv_astore X.1 X.2.1 (by decide +kernel) hlv (by decide) rfl kk) rfl (fun j hj n hn => by
            have : j = 3 := by omega
            subst this
            cases hn) k15
          exact ((x_iops (pc' := 5) (by decide +kernel) rfl : x_Imp (xM, xN, KW, false, cL_gull, N + 6, 5, (some .int), l, D, gg (N + 1)) (p_ops x_dd (gg (N + 1)) 0 [.aload 3, .iconst 0, .aload 0, .iload 1, .iload 2]) 0 5 []) (gg_ok l D (N + 1)) ([.inr (.inr (.inl (kx, jx))), .inl p0, .inl p1, .inr (.inr (.inl (ko, jo))), .inr (.inr (.inr 2))], [], H) (.inl 0) _ rfl).2 p e R s m args below meth c Q A H ad X ⟨5, rfl, k5⟩
        · cases h
      · cases h
    · cases h
  · cases h
theorem x_ih_gull {N d nL : Nat} {l : Launch} {D : va_G} {cc : ByteArray} {ret : Option FieldType} {G : xG} {pc nx : Nat} {brs : List Nat} (hl : l.stackTraces = false) (hN : 1 ≤ N) (hd : N + 7 ≤ d) (hdg : decode cc pc = .ok (.invokestatic 60, 3)) (hln : x_land cc 3 (pc + 3) nx = true) : x_Imp (xM, xN, KW, false, cc, d, nL, ret, l, D, G) (p_hc 4 (h_gull N)) pc nx brs :=
  x_ihc (sW_gull hl hN) hd wW_gull.1 wW_gull.2.1 wW_gull.2.2 x_wL ⟨by decide, by decide⟩ (by decide +kernel) (by decide) hdg hln

/-! letter -/
noncomputable def h_letter (N : Nat) : List xV → xH → Option (Option xV × xH) := h_P3 (fX11_letter (gg N))
set_option maxRecDepth 100000 in
theorem wW_letter : Cond.codeWith yL_letter cL_letter 5 (some .int) [(0, 10, 13, 13)] ∈ xT ∧ Cond.methodLink RL 63 yL_letter ∈ xT ∧ Cond.static yL_letter ∈ xT := ⟨x_in 1350 rfl rfl, x_in 1348 rfl rfl, x_in 1349 rfl rfl⟩
theorem tT_letter {N k : Nat} {l : Launch} {D : va_G} (hl : l.stackTraces = false) (hN : 1 ≤ N) (hk : k < 2) {rx : Nat × Nat} {p0 p1 : Int} {L' : List xV} {H H' : xH} (hf : fX11_letter (gg N) ([.inr (.inr (.inl rx)), .inl p0, .inl p1, .inr (.inr (.inr 2))], [], H) = some (.inl (k + 1), (L', [], H'))) :
    x_Thr l D (yX11_letter, cX11_letter, 4, (some .int), 3) (N + 5) [.inr (.inr (.inl rx)), .inl p0, .inl p1] H H' := by
  have hk2 : k = 0 ∨ k = 1 := by omega
  rcases hk2 with rfl | rfl
  · exact x_thr (k := 0) (a := [.inr (.inr (.inl rx)), .inl p0, .inl p1]) hl (iX11_letter (N + 5) l D (gg N)) (gg_ok l D N) rfl rfl rfl (by omega) rfl (by decide +kernel) (by decide +kernel) (by decide +kernel) (by decide +kernel) (Nat.le_of_ble_eq_true rfl) hf
  · exact x_thr (k := 1) (a := [.inr (.inr (.inl rx)), .inl p0, .inl p1]) hl (iX11_letter (N + 5) l D (gg N)) (gg_ok l D N) rfl rfl rfl (by omega) rfl (by decide +kernel) (by decide +kernel) (by decide +kernel) (by decide +kernel) (Nat.le_of_ble_eq_true rfl) hf
set_option maxRecDepth 100000 in
theorem iW_letter (d : Nat) (l : Launch) (D : va_G) (G : xG) : x_Imp (xM, xN, KW, false, cL_letter, d, 5, (some .int), l, D, G) (h_q3 G 1755) 0 0 [] := x_isq 17 (x_iops (pc' := 10) (by decide +kernel) (by decide +kernel)) (x_isq 18 (x_iops (pc' := 18) (by decide +kernel) rfl) (x_iri (by decide +kernel) rfl))
theorem eW_letter {N : Nat} {kx jx ko jo mo : Nat} {p0 p1 v : Int} {g : Nat → Int} {L1 S1 : List xV} {H H1 : xH} (hi : x_isc H kx jx 11 = true) (hf : fX11_letter (gg N) ([.inr (.inr (.inl (kx, jx))), .inl p0, .inl p1, .inr (.inr (.inr 2))], [], H) = some (.inr (some (.inl v)), (L1, S1, H1))) (ho : xcell H1 ko jo = some (.inr (.inl (3, mo, g)))) (hm : 0 < mo) :
    h_q3 (gg (N + 1)) 1755 ([.inr (.inr (.inl (kx, jx))), .inl p0, .inl p1, .inr (.inr (.inl (ko, jo))), .inr (.inr (.inr 2))], [], H) = some (.inr (some (.inl 0)), ([.inr (.inr (.inl (kx, jx))), .inl p0, .inl p1, .inr (.inr (.inl (ko, jo))), .inr (.inr (.inr 2))], [], xput H1 ko jo (.inr (.inl (3, mo, xfu g 0 v))))) := by
  have hc : (gg (N + 1) 109).2 [.inr (.inr (.inl (kx, jx))), .inl p0, .inl p1] H = some (some (.inl v), H1) := by
    rw [gb109]
    show (match fX11_letter (gg N) ([.inr (.inr (.inl (kx, jx))), .inl p0, .inl p1, .inr (.inr (.inr 2))], [], H) with
      | some (.inr v, t) => some (v, t.2.2)
      | _ => none) = _
    rw [hf]
  have h0 : (0 : Int) < (mo : Int) := by omega
  unfold h_q3 p_sq p_ops
  simp only [e_al, e_iconst, e_il, List.getElem?_cons_zero, List.getElem?_cons_succ]
  rw [ec109 (by simp [xcat]) hi, hc]
  simp only [Option.bind_some, Option.toList_some, List.cons_append, List.nil_append, e_i2l]
  rw [e_lastore ho (Int.le_refl 0) h0]
  rfl
theorem sW_letter {N : Nat} {l : Launch} {D : va_G} (hl : l.stackTraces = false) (hN : 1 ≤ N) : x_SndW l D yL_letter (Cond.codeWith yL_letter cL_letter 5 (some .int) [(0, 10, 13, 13)] :: xT) (h_letter N) (N + 6) := by
  intro a H r H' h
  unfold h_letter h_P3 at h
  split at h
  · rename_i kx jx p0 p1 ko jo
    split at h
    · rename_i hi
      split at h
      · rename_i v L1 S1 H1 hf
        split at h
        · rename_i mo g ho
          split at h
          · rename_i hm
            cases h
            have ev := eW_letter hi hf ho hm
            obtain ⟨g1, w1⟩ := iW_letter (N + 6) l D (gg (N + 1)) (gg_ok l D (N + 1)) _ _ _ ev
            exact ⟨g1, x_metW (K := KW) (a := [.inr (.inr (.inl (kx, jx))), .inl p0, .inl p1, .inr (.inr (.inl (ko, jo)))]) rfl rfl (by omega) kkW (Nat.le_of_ble_eq_true rfl) (fun p e R s m args below meth c Q A ad X _ F => w1 p e R s m args below meth c Q A H ad X F)⟩
          · cases h
        · cases h
      · rename_i k L1 H1 hf
        split at h
        · rename_i hk
          cases h
          have hT := tT_letter (D := D) hl hN hk hf
          obtain ⟨fs, hcl⟩ := x_isc_inv hi
          refine ⟨hT.1.tr (x_gr.count H1 6), x_metW (K := KW) (a := [.inr (.inr (.inl (kx, jx))), .inl p0, .inl p1, .inr (.inr (.inl (ko, jo)))]) rfl rfl (by omega) kkW (Nat.le_of_ble_eq_true rfl) (fun p e R s m args below meth c Q A ad X htab F => ?_)⟩
          have k15 : x_At p l e R s m args below meth c Q D A 5 H ad (13 + 2) ([.inr (.inr (.inl (kx, jx))), .inl p0, .inl p1, .inr (.inr (.inl (ko, jo))), .inr (.inr (.inr 2))], [], xcount H1 6) :=
            ((x_isq 16 (x_iops (pc' := 16) (by decide +kernel) rfl) (x_iri (by decide +kernel) rfl) : x_Imp (xM, xN, KW, false, cL_letter, N + 6, 5, (some .int), l, D, gg (N + 1)) (p_sq (p_ops x_dd (gg (N + 1)) 0 [.iconst 1]) p_ri) 15 0 []) (gg_ok l D (N + 1)) ([.inr (.inr (.inl (kx, jx))), .inl p0, .inl p1, .inr (.inr (.inl (ko, jo))), .inr (.inr (.inr 2))], [], xcount H1 6) (.inr (some (.inl 1))) ([.inr (.inr (.inl (kx, jx))), .inl p0, .inl p1, .inr (.inr (.inl (ko, jo))), .inr (.inr (.inr 2))], [], xcount H1 6) rfl).2 p e R s m args below meth c Q A H ad X F
          have k5 := x_hX (S := [.inl p1, .inl p0, .inr (.inr (.inl (kx, jx))), .inl 0, .inr (.inr (.inl (ko, jo)))]) (q := 1755) (n := 2) (i := 4) (len := 2) (hp := 13) (pc := 5) X rfl rfl kmW_18 (by decide +kernel) (Nat.le_refl _) rfl rfl hcl (Nat.le_of_ble_eq_true rfl) hT (x := ⟨0, 10, 13, 13⟩) htab (by decide) rfl rfl (fun z lv Hc locs ls cells slots hlv kk => lv_astore X.1 X.2.1 (by decide +kernel) hlv (by decide) rfl kk) rfl (fun j hj n hn => by
            have : j = 3 := by omega
            subst this
            cases hn) k15
          exact ((x_iops (pc' := 5) (by decide +kernel) rfl : x_Imp (xM, xN, KW, false, cL_letter, N + 6, 5, (some .int), l, D, gg (N + 1)) (p_ops x_dd (gg (N + 1)) 0 [.aload 3, .iconst 0, .aload 0, .iload 1, .iload 2]) 0 5 []) (gg_ok l D (N + 1)) ([.inr (.inr (.inl (kx, jx))), .inl p0, .inl p1, .inr (.inr (.inl (ko, jo))), .inr (.inr (.inr 2))], [], H) (.inl 0) _ rfl).2 p e R s m args below meth c Q A H ad X ⟨5, rfl, k5⟩
        · cases h
      · cases h
    · cases h
  · cases h
theorem x_ih_letter {N d nL : Nat} {l : Launch} {D : va_G} {cc : ByteArray} {ret : Option FieldType} {G : xG} {pc nx : Nat} {brs : List Nat} (hl : l.stackTraces = false) (hN : 1 ≤ N) (hd : N + 7 ≤ d) (hdg : decode cc pc = .ok (.invokestatic 63, 3)) (hln : x_land cc 3 (pc + 3) nx = true) : x_Imp (xM, xN, KW, false, cc, d, nL, ret, l, D, G) (p_hc 4 (h_letter N)) pc nx brs :=
  x_ihc (sW_letter hl hN) hd wW_letter.1 wW_letter.2.1 wW_letter.2.2 x_wL ⟨by decide, by decide⟩ (by decide +kernel) (by decide) hdg hln

/-! row -/
noncomputable def h_row (N : Nat) : List xV → xH → Option (Option xV × xH) := h_P2 (fX11_row (gg N))
set_option maxRecDepth 100000 in
theorem wW_row : Cond.codeWith yL_row cL_row 4 (some .int) [(0, 9, 12, 13)] ∈ xT ∧ Cond.methodLink RL 212 yL_row ∈ xT ∧ Cond.static yL_row ∈ xT := ⟨x_in 1358 rfl rfl, x_in 1356 rfl rfl, x_in 1357 rfl rfl⟩
theorem tT_row {N k : Nat} {l : Launch} {D : va_G} (hl : l.stackTraces = false) (hN : 1 ≤ N) (hk : k < 1) {rx : Nat × Nat} {p0 : Int} {L' : List xV} {H H' : xH} (hf : fX11_row (gg N) ([.inr (.inr (.inl rx)), .inl p0], [], H) = some (.inl (k + 1), (L', [], H'))) :
    x_Thr l D (yX11_row, cX11_row, 2, (some .int), 2) (N + 5) [.inr (.inr (.inl rx)), .inl p0] H H' := by
  have hk2 : k = 0 := by omega
  subst hk2
  exact x_thr (k := 0) (a := [.inr (.inr (.inl rx)), .inl p0]) hl (iX11_row (N + 5) l D (gg N)) (gg_ok l D N) rfl rfl rfl (by omega) rfl (by decide +kernel) (by decide +kernel) (by decide +kernel) (by decide +kernel) (Nat.le_of_ble_eq_true rfl) hf
set_option maxRecDepth 100000 in
theorem iW_row (d : Nat) (l : Launch) (D : va_G) (G : xG) : x_Imp (xM, xN, KW, false, cL_row, d, 4, (some .int), l, D, G) (h_q2 G 2587) 0 0 [] := x_isq 15 (x_iops (pc' := 9) (by decide +kernel) (by decide +kernel)) (x_isq 16 (x_iops (pc' := 16) (by decide +kernel) rfl) (x_iri (by decide +kernel) rfl))
theorem eW_row {N : Nat} {kx jx ko jo mo : Nat} {p0 v : Int} {g : Nat → Int} {L1 S1 : List xV} {H H1 : xH} (hi : x_isc H kx jx 11 = true) (hf : fX11_row (gg N) ([.inr (.inr (.inl (kx, jx))), .inl p0], [], H) = some (.inr (some (.inl v)), (L1, S1, H1))) (ho : xcell H1 ko jo = some (.inr (.inl (3, mo, g)))) (hm : 0 < mo) :
    h_q2 (gg (N + 1)) 2587 ([.inr (.inr (.inl (kx, jx))), .inl p0, .inr (.inr (.inl (ko, jo))), .inr (.inr (.inr 2))], [], H) = some (.inr (some (.inl 0)), ([.inr (.inr (.inl (kx, jx))), .inl p0, .inr (.inr (.inl (ko, jo))), .inr (.inr (.inr 2))], [], xput H1 ko jo (.inr (.inl (3, mo, xfu g 0 v))))) := by
  have hc : (gg (N + 1) 161).2 [.inr (.inr (.inl (kx, jx))), .inl p0] H = some (some (.inl v), H1) := by
    rw [gb161]
    show (match fX11_row (gg N) ([.inr (.inr (.inl (kx, jx))), .inl p0], [], H) with
      | some (.inr v, t) => some (v, t.2.2)
      | _ => none) = _
    rw [hf]
  have h0 : (0 : Int) < (mo : Int) := by omega
  unfold h_q2 p_sq p_ops
  simp only [e_al, e_iconst, e_il, List.getElem?_cons_zero, List.getElem?_cons_succ]
  rw [ec161 (by simp [xcat]) hi, hc]
  simp only [Option.bind_some, Option.toList_some, List.cons_append, List.nil_append, e_i2l]
  rw [e_lastore ho (Int.le_refl 0) h0]
  rfl
theorem sW_row {N : Nat} {l : Launch} {D : va_G} (hl : l.stackTraces = false) (hN : 1 ≤ N) : x_SndW l D yL_row (Cond.codeWith yL_row cL_row 4 (some .int) [(0, 9, 12, 13)] :: xT) (h_row N) (N + 6) := by
  intro a H r H' h
  unfold h_row h_P2 at h
  split at h
  · rename_i kx jx p0 ko jo
    split at h
    · rename_i hi
      split at h
      · rename_i v L1 S1 H1 hf
        split at h
        · rename_i mo g ho
          split at h
          · rename_i hm
            cases h
            have ev := eW_row hi hf ho hm
            obtain ⟨g1, w1⟩ := iW_row (N + 6) l D (gg (N + 1)) (gg_ok l D (N + 1)) _ _ _ ev
            exact ⟨g1, x_metW (K := KW) (a := [.inr (.inr (.inl (kx, jx))), .inl p0, .inr (.inr (.inl (ko, jo)))]) rfl rfl (by omega) kkW (Nat.le_of_ble_eq_true rfl) (fun p e R s m args below meth c Q A ad X _ F => w1 p e R s m args below meth c Q A H ad X F)⟩
          · cases h
        · cases h
      · rename_i k L1 H1 hf
        split at h
        · rename_i hk
          cases h
          have hT := tT_row (D := D) hl hN hk hf
          obtain ⟨fs, hcl⟩ := x_isc_inv hi
          refine ⟨hT.1.tr (x_gr.count H1 6), x_metW (K := KW) (a := [.inr (.inr (.inl (kx, jx))), .inl p0, .inr (.inr (.inl (ko, jo)))]) rfl rfl (by omega) kkW (Nat.le_of_ble_eq_true rfl) (fun p e R s m args below meth c Q A ad X htab F => ?_)⟩
          have k15 : x_At p l e R s m args below meth c Q D A 4 H ad (12 + 1) ([.inr (.inr (.inl (kx, jx))), .inl p0, .inr (.inr (.inl (ko, jo))), .inr (.inr (.inr 2))], [], xcount H1 6) :=
            ((x_isq 14 (x_iops (pc' := 14) (by decide +kernel) rfl) (x_iri (by decide +kernel) rfl) : x_Imp (xM, xN, KW, false, cL_row, N + 6, 4, (some .int), l, D, gg (N + 1)) (p_sq (p_ops x_dd (gg (N + 1)) 0 [.iconst 1]) p_ri) 13 0 []) (gg_ok l D (N + 1)) ([.inr (.inr (.inl (kx, jx))), .inl p0, .inr (.inr (.inl (ko, jo))), .inr (.inr (.inr 2))], [], xcount H1 6) (.inr (some (.inl 1))) ([.inr (.inr (.inl (kx, jx))), .inl p0, .inr (.inr (.inl (ko, jo))), .inr (.inr (.inr 2))], [], xcount H1 6) rfl).2 p e R s m args below meth c Q A H ad X F
          have k5 := x_hX (S := [.inl p0, .inr (.inr (.inl (kx, jx))), .inl 0, .inr (.inr (.inl (ko, jo)))]) (q := 2587) (n := 1) (i := 3) (len := 1) (hp := 12) (pc := 4) X rfl rfl kmW_21 (by decide +kernel) (Nat.le_refl _) rfl rfl hcl (Nat.le_of_ble_eq_true rfl) hT (x := ⟨0, 9, 12, 13⟩) htab (by decide) rfl rfl (fun z lv Hc locs ls cells slots hlv kk => lv_astore_n X.1 X.2.1 (k := 3) (by decide +kernel) rfl hlv (by decide) rfl kk) rfl (fun j hj n hn => by
            have : j = 2 := by omega
            subst this
            cases hn) k15
          exact ((x_iops (pc' := 4) (by decide +kernel) rfl : x_Imp (xM, xN, KW, false, cL_row, N + 6, 4, (some .int), l, D, gg (N + 1)) (p_ops x_dd (gg (N + 1)) 0 [.aload 2, .iconst 0, .aload 0, .iload 1]) 0 4 []) (gg_ok l D (N + 1)) ([.inr (.inr (.inl (kx, jx))), .inl p0, .inr (.inr (.inl (ko, jo))), .inr (.inr (.inr 2))], [], H) (.inl 0) _ rfl).2 p e R s m args below meth c Q A H ad X ⟨4, rfl, k5⟩
        · cases h
      · cases h
    · cases h
  · cases h
theorem x_ih_row {N d nL : Nat} {l : Launch} {D : va_G} {cc : ByteArray} {ret : Option FieldType} {G : xG} {pc nx : Nat} {brs : List Nat} (hl : l.stackTraces = false) (hN : 1 ≤ N) (hd : N + 7 ≤ d) (hdg : decode cc pc = .ok (.invokestatic 212, 3)) (hln : x_land cc 3 (pc + 3) nx = true) : x_Imp (xM, xN, KW, false, cc, d, nL, ret, l, D, G) (p_hc 3 (h_row N)) pc nx brs :=
  x_ihc (sW_row hl hN) hd wW_row.1 wW_row.2.1 wW_row.2.2 x_wL ⟨by decide, by decide⟩ (by decide +kernel) (by decide) hdg hln

