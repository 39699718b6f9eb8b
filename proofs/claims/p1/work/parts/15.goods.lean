theorem goodIn_ca {big a b : List Cond} {c : Cond} (ha : GoodIn big (c :: a)) (hb : GoodIn big b) : GoodIn big (c :: (a ++ b)) := fun w h => (List.mem_cons.mp h).elim (fun e => ha w (List.mem_cons.mpr (Or.inl e))) (fun h => (List.mem_append.mp h).elim (fun h => ha w (List.mem_cons.mpr (Or.inr h))) (hb w))
def RL : String := "FourTonguesLaw"
set_option maxRecDepth 100000 in
theorem gb_f_RX0 : GoodIn lw_tbl wsX00 := goodIn_r _ [358, 360, 362, 364, 366, 368] (by decide +kernel) (by decide +kernel)
set_option maxRecDepth 100000 in
theorem gb_f_RX1 : GoodIn lw_tbl wsX10 := goodIn_r _ [549, 551, 553, 555, 557] (by decide +kernel) (by decide +kernel)
set_option maxRecDepth 100000 in
theorem gb_f_RX10 : GoodIn lw_tbl wsX100 := goodIn_r _ [461, 463, 465, 467, 469, 471, 473, 475, 477, 479, 481, 483, 485, 487, 489, 491] (by decide +kernel) (by decide +kernel)
set_option maxRecDepth 100000 in
theorem gb_f_RX11 : GoodIn lw_tbl wsX110 := goodIn_r _ [682, 684, 686, 688, 690, 692, 694, 696, 698] (by decide +kernel) (by decide +kernel)
set_option maxRecDepth 100000 in
theorem gb_f_RX12 : GoodIn lw_tbl wsX120 := goodIn_r _ [1932, 1934, 1936, 1938, 1940, 1942, 1944, 1946, 1948, 1950, 1952, 1954, 1956, 1958, 1960, 1962, 1964, 1966, 1968, 1970, 1972, 1974, 1976, 1978, 1980, 1982, 1984, 1986, 1988, 1990, 1992, 1994, 1996, 1998, 2000, 2002, 2004, 2006, 2008, 2010, 2012, 2014, 2016, 2018, 2020, 2022, 2024, 2026, 2028, 2030, 2032, 2034, 2036, 2038, 2040, 2042, 2044, 2046, 2048, 2050, 2052, 2054, 2056, 2058, 2060, 2062, 2064, 2066, 2068, 2070, 2072, 2074, 2076, 2078, 2080, 2082, 2084, 2086, 2088, 2090, 2092, 2094, 2096, 2098, 2100, 2102, 2104, 2106, 2108, 2110, 2112, 2114, 2116, 2118, 2120, 2122, 2124, 2126, 2128, 2130, 2132, 2134, 2136, 2138, 2140, 2142] (by decide +kernel) (by decide +kernel)
set_option maxRecDepth 100000 in
theorem gb_f_RX2 : GoodIn lw_tbl wsX20 := goodIn_r _ [574, 576, 578, 580, 582, 584, 586, 588] (by decide +kernel) (by decide +kernel)
set_option maxRecDepth 100000 in
theorem gb_f_RX3 : GoodIn lw_tbl wsX30 := goodIn_r _ [606, 608, 610, 612, 614, 616, 618] (by decide +kernel) (by decide +kernel)
set_option maxRecDepth 100000 in
theorem gb_f_RX4 : GoodIn lw_tbl wsX40 := goodIn_r _ [638, 640, 642, 644, 646, 648, 650, 652, 654, 656, 658, 660, 662, 664, 666, 668, 670] (by decide +kernel) (by decide +kernel)
set_option maxRecDepth 100000 in
theorem gb_f_RX5 : GoodIn lw_tbl wsX50 := goodIn_r _ [329, 331, 333, 335, 337] (by decide +kernel) (by decide +kernel)
set_option maxRecDepth 100000 in
theorem gb_f_RX7 : GoodIn lw_tbl wsX70 := goodIn_r _ [505, 507, 509, 511, 513, 515, 517, 519, 521, 523, 525] (by decide +kernel) (by decide +kernel)
set_option maxRecDepth 100000 in
theorem gb_f_RX8 : GoodIn lw_tbl wsX80 := goodIn_r _ [409, 411, 413, 415, 417, 419, 421, 423] (by decide +kernel) (by decide +kernel)
set_option maxRecDepth 100000 in
theorem gb_f_RX9 : GoodIn lw_tbl wsX90 := goodIn_r _ [391, 393, 395, 397] (by decide +kernel) (by decide +kernel)
set_option maxRecDepth 100000 in
theorem gb_wsX11_init : GoodIn lw_tbl wsX11_init := goodIn_r _ [265, 266, 267, 268, 340, 673, 674, 675, 269, 270, 239, 676, 343, 344, 244, 677, 371, 678, 373, 246, 679, 426, 427, 249, 680, 528, 529, 251, 681, 271, 272, 273, 274, 341, 324, 342, 325, 326, 327, 328, 276, 277, 278, 240, 279, 2726, 280, 281, 282, 283, 284, 2727, 286, 287, 288, 289, 290, 291, 292, 293, 294, 295, 241, 296, 297, 298, 299, 300, 302, 303, 242, 304, 305, 306, 243, 307, 308, 309, 310, 311, 312, 313, 314, 315, 316, 317, 318, 320, 322, 345, 346, 347, 348, 352, 353, 354, 355, 356, 357, 349, 350, 245, 351, 375, 376, 377, 401, 402, 378, 379, 247, 403, 404, 405, 406, 407, 408, 380, 381, 382, 383, 390, 384, 385, 248, 386, 387, 388, 400, 389, 428, 429, 430, 431, 497, 498, 499, 500, 501, 502, 503, 504, 432, 433, 250, 494, 495, 496, 434, 435, 436, 437, 442, 443, 444, 445, 446, 447, 448, 449, 450, 451, 452, 453, 455, 457, 459, 441, 439, 440, 530, 531, 532, 533, 534, 624, 625, 626, 536, 537, 252, 627, 560, 561, 253, 628, 591, 592, 254, 629, 630, 632, 633, 634, 635, 636, 637, 621, 622, 623, 631, 535, 539, 540, 541, 544, 545, 542, 546, 547, 548, 543, 563, 564, 565, 566, 567, 568, 569, 570, 571, 572, 573, 594, 595, 596, 599, 600, 601, 602, 603, 597, 604, 605, 598, 682, 684, 686, 688, 690, 692, 694, 696, 698, 329, 331, 333, 335, 337, 358, 360, 362, 364, 366, 368, 409, 411, 413, 415, 417, 419, 421, 423, 505, 507, 509, 511, 513, 515, 517, 519, 521, 523, 525, 638, 640, 642, 644, 646, 648, 650, 652, 654, 656, 658, 660, 662, 664, 666, 668, 670, 391, 393, 395, 397, 461, 463, 465, 467, 469, 471, 473, 475, 477, 479, 481, 483, 485, 487, 489, 491, 549, 551, 553, 555, 557, 574, 576, 578, 580, 582, 584, 586, 588, 606, 608, 610, 612, 614, 616, 618] (by decide +kernel) (by decide +kernel)
theorem gl_wsX11_init : GoodIn lw_tbl wsX11_init := gb_wsX11_init
set_option maxRecDepth 100000 in
theorem gb_wsJ0_length_8abf5 : GoodIn lw_tbl wsJ0_length_8abf5 := goodIn_r _ [279, 2726, 280, 281, 282, 240, 283, 284, 2727] (by decide +kernel) (by decide +kernel)
set_option maxRecDepth 100000 in
theorem gb_wsJ0_charAt_5068e : GoodIn lw_tbl wsJ0_charAt_5068e := goodIn_r _ [289, 2726, 290, 291, 292, 240, 293, 284, 2727, 294, 295, 241, 296, 297, 298, 299, 300, 302, 303, 242, 304, 305, 306, 243, 307, 308, 309, 310, 311, 312, 313, 314, 315, 316, 317, 318, 320, 322] (by decide +kernel) (by decide +kernel)
set_option maxRecDepth 100000 in
theorem gb_wqX12_codeOf : GoodIn lw_tbl wqX12_codeOf := by
  unfold wqX12_codeOf
  exact goodIn_r _ [1825] (by decide +kernel) (by decide +kernel)
set_option maxRecDepth 100000 in
theorem gb_wqX12_init : GoodIn lw_tbl wqX12_init := by
  unfold wqX12_init
  exact goodIn_ca (goodIn_r _ [1816, 1817, 267, 268, 342, 1827, 341, 1829, 1831, 1818, 1845, 1846, 1847, 1849, 1850, 1851, 1852, 1853, 1854, 1856, 1859, 1864, 1867, 1868, 1869, 1870, 1871, 1872, 340, 1875, 1876, 1877, 1878, 1880, 1881, 1882, 1883, 1884, 1885, 1886, 1888, 1889, 1890, 1892, 1893, 1896, 1897, 1898, 1899, 1900, 1901, 1902, 1903, 1904, 1905, 1906, 1912, 1913, 1926, 1927, 1928, 1929, 1931, 1830, 1820, 277, 278, 240, 1821, 287, 288, 1822, 1823, 1824, 255] (by decide +kernel) (by decide +kernel)) (goodIn_app gb_f_RX12 (goodIn_app gb_wsJ0_length_8abf5 (goodIn_app gb_wsJ0_charAt_5068e gb_wqX12_codeOf)))
theorem gl_wqX12_init : GoodIn lw_tbl wqX12_init := gb_wqX12_init
set_option maxRecDepth 100000 in
theorem gb_wsX11_feed : GoodIn lw_tbl wsX11_feed := goodIn_r _ [704, 674, 705, 707, 0, 238, 708, 673, 682, 684, 686, 688, 690, 692, 694, 696, 698] (by decide +kernel) (by decide +kernel)
set_option maxRecDepth 100000 in
theorem gl_wsX11_feed_13 : GoodIn lw_tbl (wsV RL 13 RX11 yX11_feed wsX11_feed) := goodIn_app (goodIn_r _ [701, 702, 703, 238] (by decide +kernel) (by decide +kernel)) gb_wsX11_feed
set_option maxRecDepth 100000 in
theorem gb_wqX12_feed : GoodIn lw_tbl wqX12_feed := by
  unfold wqX12_feed
  exact goodIn_ca (goodIn_r _ [2152, 1826, 1828, 1827] (by decide +kernel) (by decide +kernel)) gb_f_RX12
set_option maxRecDepth 100000 in
theorem gl_wqX12_feed_17 : GoodIn lw_tbl (wsV RL 17 RX12 yX12_feed wqX12_feed) := goodIn_app (goodIn_r _ [2149, 2150, 2151, 255] (by decide +kernel) (by decide +kernel)) gb_wqX12_feed
set_option maxRecDepth 100000 in
theorem gb_wsX11_isTongue : GoodIn lw_tbl wsX11_isTongue := goodIn_r _ [715] (by decide +kernel) (by decide +kernel)
set_option maxRecDepth 100000 in
theorem gb_wqX5_keep : GoodIn lw_tbl wqX5_keep := by
  unfold wqX5_keep
  exact goodIn_ca (goodIn_r _ [719, 327, 328, 325, 326, 720, 722, 721, 256] (by decide +kernel) (by decide +kernel)) gb_f_RX5
set_option maxRecDepth 100000 in
theorem gb_wqX9_resize : GoodIn lw_tbl wqX9_resize := by
  unfold wqX9_resize
  exact goodIn_ca (goodIn_r _ [734, 384, 385, 248, 386, 387, 390] (by decide +kernel) (by decide +kernel)) gb_f_RX9
set_option maxRecDepth 100000 in
theorem gb_wqX8_clear : GoodIn lw_tbl wqX8_clear := by
  unfold wqX8_clear
  exact goodIn_ca (goodIn_r _ [730, 402, 408, 403, 731, 732, 733, 247] (by decide +kernel) (by decide +kernel)) (goodIn_app gb_f_RX8 gb_wqX9_resize)
set_option maxRecDepth 100000 in
theorem gb_wsJ7_fill_53178 : GoodIn lw_tbl wsJ7_fill_53178 := goodIn_r _ [351] (by decide +kernel) (by decide +kernel)
set_option maxRecDepth 100000 in
theorem gb_wqX10_byteAt : GoodIn lw_tbl wqX10_byteAt := by
  unfold wqX10_byteAt
  exact goodIn_ca (goodIn_r _ [778, 448] (by decide +kernel) (by decide +kernel)) gb_f_RX10
set_option maxRecDepth 100000 in
theorem gb_wqX10_readToken : GoodIn lw_tbl wqX10_readToken := by
  unfold wqX10_readToken
  exact goodIn_ca (goodIn_r _ [774, 450, 448, 455, 457, 775, 777, 2, 250, 453] (by decide +kernel) (by decide +kernel)) (goodIn_app gb_f_RX10 gb_wqX10_byteAt)
set_option maxRecDepth 100000 in
theorem gb_wqX10_next : GoodIn lw_tbl wqX10_next := by
  unfold wqX10_next
  exact goodIn_ca (goodIn_r _ [876, 452, 451, 447, 443, 453, 444, 455, 445, 457, 446, 459] (by decide +kernel) (by decide +kernel)) gb_f_RX10
set_option maxRecDepth 100000 in
theorem gb_wqX10_begin : GoodIn lw_tbl wqX10_begin := by
  unfold wqX10_begin
  exact goodIn_ca (goodIn_r _ [769, 449, 441, 770, 746, 248, 747, 448, 450, 447, 453, 771, 773, 1, 250, 443, 444, 455, 445, 457, 446, 459, 452, 451, 873, 874, 875] (by decide +kernel) (by decide +kernel)) (goodIn_app gb_f_RX10 (goodIn_app gb_wqX10_readToken gb_wqX10_next))
set_option maxRecDepth 100000 in
theorem gb_wqX7_parse : GoodIn lw_tbl wqX7_parse := by
  unfold wqX7_parse
  exact goodIn_ca (goodIn_r _ [726, 496, 727, 728, 729, 246, 502, 503, 501, 497, 765, 350, 245, 494, 766, 767, 768, 250] (by decide +kernel) (by decide +kernel)) (goodIn_app gb_f_RX7 (goodIn_app gb_wqX8_clear (goodIn_app gb_wsJ7_fill_53178 (goodIn_app gb_wqX10_begin gb_f_RX10))))
set_option maxRecDepth 100000 in
theorem gb_wqX7_faultKind : GoodIn lw_tbl wqX7_faultKind := by
  unfold wqX7_faultKind
  exact goodIn_ca (goodIn_r _ [1167, 497] (by decide +kernel) (by decide +kernel)) gb_f_RX7
set_option maxRecDepth 100000 in
theorem gb_wsX8_functions : GoodIn lw_tbl wsX8_functions := goodIn_r _ [909, 408, 409, 411, 413, 415, 417, 419, 421, 423] (by decide +kernel) (by decide +kernel)
set_option maxRecDepth 100000 in
theorem gb_wqX11_load : GoodIn lw_tbl wqX11_load := by
  unfold wqX11_load
  exact goodIn_ca (goodIn_r _ [712, 713, 714, 238, 674, 676, 716, 717, 718, 239, 680, 679, 723, 724, 725, 249, 1164, 1165, 1166, 675, 678, 1177, 907, 908, 246] (by decide +kernel) (by decide +kernel)) (goodIn_app gb_wsX11_isTongue (goodIn_app gb_f_RX11 (goodIn_app gb_wqX5_keep (goodIn_app gb_wqX7_parse (goodIn_app gb_wqX7_faultKind gb_wsX8_functions)))))
set_option maxRecDepth 100000 in
theorem gl_wqX11_load_18 : GoodIn lw_tbl (wsV RL 18 RX11 yX11_load wqX11_load) := goodIn_app (goodIn_r _ [709, 710, 711, 238] (by decide +kernel) (by decide +kernel)) gb_wqX11_load
set_option maxRecDepth 100000 in
theorem gb_wqX12_isWrong : GoodIn lw_tbl wqX12_isWrong := by
  unfold wqX12_isWrong
  exact goodIn_ca (goodIn_r _ [2164, 1841] (by decide +kernel) (by decide +kernel)) gb_f_RX12
set_option maxRecDepth 100000 in
theorem gb_wqX12_here : GoodIn lw_tbl wqX12_here := by
  unfold wqX12_here
  exact goodIn_ca (goodIn_r _ [2168, 1832, 1833] (by decide +kernel) (by decide +kernel)) gb_f_RX12
set_option maxRecDepth 100000 in
theorem gb_wqX12_next : GoodIn lw_tbl wqX12_next := by
  unfold wqX12_next
  exact goodIn_ca (goodIn_r _ [2160, 2161, 2163, 120, 255, 2165, 2167, 121, 1832, 1835, 1834] (by decide +kernel) (by decide +kernel)) (goodIn_app gb_wqX12_isWrong (goodIn_app gb_wqX12_here gb_f_RX12))
set_option maxRecDepth 100000 in
theorem gb_wqX12_isWrong4 : GoodIn lw_tbl wqX12_isWrong4 := by
  unfold wqX12_isWrong4
  exact goodIn_ca (goodIn_r _ [2164, 1841] (by decide +kernel) (by decide +kernel)) gb_f_RX12
set_option maxRecDepth 100000 in
theorem gb_wqX12_text : GoodIn lw_tbl wqX12_text := by
  unfold wqX12_text
  exact goodIn_ca (goodIn_r _ [2218, 2161, 2163, 120, 255, 1834] (by decide +kernel) (by decide +kernel)) (goodIn_app gb_wqX12_isWrong4 gb_f_RX12)
set_option maxRecDepth 100000 in
theorem gb_wqX12_load : GoodIn lw_tbl wqX12_load := by
  unfold wqX12_load
  exact goodIn_ca (goodIn_r _ [2156, 1826, 1828, 1840, 1832, 1833, 1841, 1842, 1843, 1844, 1848, 1865, 1853, 1830, 1855, 2157, 2159, 119, 255, 2215, 2217, 127, 1866, 1831, 1854] (by decide +kernel) (by decide +kernel)) (goodIn_app gb_f_RX12 (goodIn_app gb_wqX12_next gb_wqX12_text))
set_option maxRecDepth 100000 in
theorem gl_wqX12_load_22 : GoodIn lw_tbl (wsV RL 22 RX12 yX12_load wqX12_load) := goodIn_app (goodIn_r _ [2153, 2154, 2155, 255] (by decide +kernel) (by decide +kernel)) gb_wqX12_load
set_option maxRecDepth 100000 in
theorem gb_wsX11_fault : GoodIn lw_tbl wsX11_fault := goodIn_r _ [1181, 675, 682, 684, 686, 688, 690, 692, 694, 696, 698] (by decide +kernel) (by decide +kernel)
set_option maxRecDepth 100000 in
theorem gl_wsX11_fault_23 : GoodIn lw_tbl (wsV RL 23 RX11 yX11_fault wsX11_fault) := goodIn_app (goodIn_r _ [1178, 1179, 1180, 238] (by decide +kernel) (by decide +kernel)) gb_wsX11_fault
set_option maxRecDepth 100000 in
theorem gb_wqX12_fault : GoodIn lw_tbl wqX12_fault := by
  unfold wqX12_fault
  exact goodIn_ca (goodIn_r _ [2459, 1826, 1866] (by decide +kernel) (by decide +kernel)) gb_f_RX12
set_option maxRecDepth 100000 in
theorem gl_wqX12_fault_27 : GoodIn lw_tbl (wsV RL 27 RX12 yX12_fault wqX12_fault) := goodIn_app (goodIn_r _ [2456, 2457, 2458, 255] (by decide +kernel) (by decide +kernel)) gb_wqX12_fault
set_option maxRecDepth 100000 in
theorem gb_wsX11_letter : GoodIn lw_tbl wsX11_letter := goodIn_r _ [1185, 676, 1186, 1187, 1188, 239, 1189, 327, 324, 1190, 682, 684, 686, 688, 690, 692, 694, 696, 698, 329, 331, 333, 335, 337] (by decide +kernel) (by decide +kernel)
set_option maxRecDepth 100000 in
theorem gl_wsX11_letter_28 : GoodIn lw_tbl (wsV RL 28 RX11 yX11_letter wsX11_letter) := goodIn_app (goodIn_r _ [1182, 1183, 1184, 238] (by decide +kernel) (by decide +kernel)) gb_wsX11_letter
set_option maxRecDepth 100000 in
theorem gb_wqX12_letter : GoodIn lw_tbl wqX12_letter := by
  unfold wqX12_letter
  exact goodIn_ca (goodIn_r _ [2148, 1826, 1830, 1829, 1822] (by decide +kernel) (by decide +kernel)) gb_f_RX12
set_option maxRecDepth 100000 in
theorem gl_wqX12_letter_31 : GoodIn lw_tbl (wsV RL 31 RX12 yX12_letter wqX12_letter) := goodIn_app (goodIn_r _ [2145, 2146, 2147, 255] (by decide +kernel) (by decide +kernel)) gb_wqX12_letter
set_option maxRecDepth 100000 in
theorem gb_wsX11_rule : GoodIn lw_tbl wsX11_rule := goodIn_r _ [1194, 677, 713, 714, 238, 715, 1195, 1196, 1197, 244, 1198, 352, 1199, 1200, 1201, 682, 684, 686, 688, 690, 692, 694, 696, 698, 358, 360, 362, 364, 366, 368] (by decide +kernel) (by decide +kernel)
set_option maxRecDepth 100000 in
theorem gl_wsX11_rule_32 : GoodIn lw_tbl (wsV RL 32 RX11 yX11_rule wsX11_rule) := goodIn_app (goodIn_r _ [1191, 1192, 1193, 238] (by decide +kernel) (by decide +kernel)) gb_wsX11_rule
set_option maxRecDepth 100000 in
theorem gb_wqX12_rule : GoodIn lw_tbl wqX12_rule := by
  unfold wqX12_rule
  exact goodIn_ca (goodIn_r _ [2463, 1826, 1926] (by decide +kernel) (by decide +kernel)) gb_f_RX12
set_option maxRecDepth 100000 in
theorem gl_wqX12_rule_36 : GoodIn lw_tbl (wsV RL 36 RX12 yX12_rule wqX12_rule) := goodIn_app (goodIn_r _ [2460, 2461, 2462, 255] (by decide +kernel) (by decide +kernel)) gb_wqX12_rule
set_option maxRecDepth 100000 in
theorem gb_wsX11_entry : GoodIn lw_tbl wsX11_entry := goodIn_r _ [1205, 677, 713, 714, 238, 715, 1206, 1208, 60, 1209, 676, 1210, 1211, 1212, 239, 1213, 327, 1214, 1215, 1216, 244, 1217, 353, 1199, 1200, 1201, 1218, 1219, 1220, 1221, 357, 354, 355, 356, 1222, 1224, 61, 1225, 682, 684, 686, 688, 690, 692, 694, 696, 698, 329, 331, 333, 335, 337, 358, 360, 362, 364, 366, 368] (by decide +kernel) (by decide +kernel)
set_option maxRecDepth 100000 in
theorem gl_wsX11_entry_37 : GoodIn lw_tbl (wsV RL 37 RX11 yX11_entry wsX11_entry) := goodIn_app (goodIn_r _ [1202, 1203, 1204, 238] (by decide +kernel) (by decide +kernel)) gb_wsX11_entry
set_option maxRecDepth 100000 in
theorem gb_wqX12_canFail : GoodIn lw_tbl wqX12_canFail := by
  unfold wqX12_canFail
  exact goodIn_ca (goodIn_r _ [2471, 1830] (by decide +kernel) (by decide +kernel)) gb_f_RX12
set_option maxRecDepth 100000 in
theorem gb_wqX12_entryOf : GoodIn lw_tbl wqX12_entryOf := by
  unfold wqX12_entryOf
  exact goodIn_ca (goodIn_r _ [2475, 1930] (by decide +kernel) (by decide +kernel)) gb_f_RX12
set_option maxRecDepth 100000 in
theorem gb_wqX12_entry : GoodIn lw_tbl wqX12_entry := by
  unfold wqX12_entry
  exact goodIn_ca (goodIn_r _ [2467, 1826, 2468, 2470, 186, 255, 2472, 2474, 187, 1930, 1927, 1928, 1929, 1931] (by decide +kernel) (by decide +kernel)) (goodIn_app gb_f_RX12 (goodIn_app gb_wqX12_canFail gb_wqX12_entryOf))
set_option maxRecDepth 100000 in
theorem gl_wqX12_entry_41 : GoodIn lw_tbl (wsV RL 41 RX12 yX12_entry wqX12_entry) := goodIn_app (goodIn_r _ [2464, 2465, 2466, 255] (by decide +kernel) (by decide +kernel)) gb_wqX12_entry
set_option maxRecDepth 100000 in
theorem gb_wqX11_callq : GoodIn lw_tbl wqX11_callq := by
  unfold wqX11_callq
  exact goodIn_ca (goodIn_r _ [1229, 713, 714, 238, 678, 1177, 907, 908, 246] (by decide +kernel) (by decide +kernel)) (goodIn_app gb_wsX11_isTongue (goodIn_app gb_f_RX11 gb_wsX8_functions))
set_option maxRecDepth 100000 in
theorem gl_wqX11_callq_44 : GoodIn lw_tbl (wsV RL 44 RX11 yX11_call wqX11_callq) := goodIn_app (goodIn_r _ [1226, 1227, 1228, 238] (by decide +kernel) (by decide +kernel)) gb_wqX11_callq
set_option maxRecDepth 100000 in
theorem gb_wqX12_call_ : GoodIn lw_tbl wqX12_call_ := by
  unfold wqX12_call_
  exact goodIn_ca (goodIn_r _ [2479, 1826, 1853] (by decide +kernel) (by decide +kernel)) gb_f_RX12
set_option maxRecDepth 100000 in
theorem gl_wqX12_call__48 : GoodIn lw_tbl (wsV RL 48 RX12 yX12_call_ wqX12_call_) := goodIn_app (goodIn_r _ [2476, 2477, 2478, 255] (by decide +kernel) (by decide +kernel)) gb_wqX12_call_
set_option maxRecDepth 100000 in
theorem gb_wsX11_look : GoodIn lw_tbl wsX11_look := goodIn_r _ [1758, 676, 681, 1210, 1211, 1212, 239, 1213, 327, 1759, 1760, 1761, 251, 1762, 630, 682, 684, 686, 688, 690, 692, 694, 696, 698, 329, 331, 333, 335, 337, 638, 640, 642, 644, 646, 648, 650, 652, 654, 656, 658, 660, 662, 664, 666, 668, 670] (by decide +kernel) (by decide +kernel)
set_option maxRecDepth 100000 in
theorem gl_wsX11_look_49 : GoodIn lw_tbl (wsV RL 49 RX11 yX11_look wsX11_look) := goodIn_app (goodIn_r _ [1755, 1756, 1757, 238] (by decide +kernel) (by decide +kernel)) gb_wsX11_look
set_option maxRecDepth 100000 in
theorem gb_wqX12_look : GoodIn lw_tbl wqX12_look := by
  unfold wqX12_look
  exact goodIn_ca (goodIn_r _ [2692, 1826, 1910, 1917, 1830, 1918] (by decide +kernel) (by decide +kernel)) gb_f_RX12
set_option maxRecDepth 100000 in
theorem gl_wqX12_look_53 : GoodIn lw_tbl (wsV RL 53 RX12 yX12_look wqX12_look) := goodIn_app (goodIn_r _ [2689, 2690, 2691, 255] (by decide +kernel) (by decide +kernel)) gb_wqX12_look
set_option maxRecDepth 100000 in
theorem gb_wsX11_answer : GoodIn lw_tbl wsX11_answer := goodIn_r _ [1766, 681, 1767, 1768, 1769, 251, 1770, 637, 682, 684, 686, 688, 690, 692, 694, 696, 698, 638, 640, 642, 644, 646, 648, 650, 652, 654, 656, 658, 660, 662, 664, 666, 668, 670] (by decide +kernel) (by decide +kernel)
set_option maxRecDepth 100000 in
theorem gl_wsX11_answer_54 : GoodIn lw_tbl (wsV RL 54 RX11 yX11_answer wsX11_answer) := goodIn_app (goodIn_r _ [1763, 1764, 1765, 238] (by decide +kernel) (by decide +kernel)) gb_wsX11_answer
set_option maxRecDepth 100000 in
theorem gb_wqX12_answer : GoodIn lw_tbl wqX12_answer := by
  unfold wqX12_answer
  exact goodIn_ca (goodIn_r _ [2696, 1826, 1921] (by decide +kernel) (by decide +kernel)) gb_f_RX12
set_option maxRecDepth 100000 in
theorem gl_wqX12_answer_58 : GoodIn lw_tbl (wsV RL 58 RX12 yX12_answer wqX12_answer) := goodIn_app (goodIn_r _ [2693, 2694, 2695, 255] (by decide +kernel) (by decide +kernel)) gb_wqX12_answer
set_option maxRecDepth 100000 in
theorem gb_wsX11_mark : GoodIn lw_tbl wsX11_mark := goodIn_r _ [1774, 681, 1775, 1776, 1777, 251, 1778, 626, 1583, 1353, 1354, 247, 1355, 390, 387, 1543, 1403, 1404, 1405, 389, 1544, 1545, 257, 1546, 1242, 1547, 1548, 1549, 1550, 1521, 1357, 1358, 1359, 388, 682, 684, 686, 688, 690, 692, 694, 696, 698, 638, 640, 642, 644, 646, 648, 650, 652, 654, 656, 658, 660, 662, 664, 666, 668, 670, 391, 393, 395, 397] (by decide +kernel) (by decide +kernel)
set_option maxRecDepth 100000 in
theorem gl_wsX11_mark_59 : GoodIn lw_tbl (wsV RL 59 RX11 yX11_mark wsX11_mark) := goodIn_app (goodIn_r _ [1771, 1772, 1773, 238] (by decide +kernel) (by decide +kernel)) gb_wsX11_mark
set_option maxRecDepth 100000 in
theorem gb_wqX12_mark : GoodIn lw_tbl wqX12_mark := by
  unfold wqX12_mark
  exact goodIn_ca (goodIn_r _ [2700, 1826, 1911] (by decide +kernel) (by decide +kernel)) gb_f_RX12
set_option maxRecDepth 100000 in
theorem gl_wqX12_mark_63 : GoodIn lw_tbl (wsV RL 63 RX12 yX12_mark wqX12_mark) := goodIn_app (goodIn_r _ [2697, 2698, 2699, 255] (by decide +kernel) (by decide +kernel)) gb_wqX12_mark
set_option maxRecDepth 100000 in
theorem gb_wsX11_markTongue : GoodIn lw_tbl wsX11_markTongue := goodIn_r _ [1782, 681, 1783, 1784, 1785, 251, 1786, 626, 1276, 1038, 1039, 247, 1040, 390, 1583, 1353, 1354, 1355, 387, 682, 684, 686, 688, 690, 692, 694, 696, 698, 638, 640, 642, 644, 646, 648, 650, 652, 654, 656, 658, 660, 662, 664, 666, 668, 670, 391, 393, 395, 397] (by decide +kernel) (by decide +kernel)
set_option maxRecDepth 100000 in
theorem gl_wsX11_markTongue_64 : GoodIn lw_tbl (wsV RL 64 RX11 yX11_markTongue wsX11_markTongue) := goodIn_app (goodIn_r _ [1779, 1780, 1781, 238] (by decide +kernel) (by decide +kernel)) gb_wsX11_markTongue
set_option maxRecDepth 100000 in
theorem gb_wqX12_markTongue : GoodIn lw_tbl wqX12_markTongue := by
  unfold wqX12_markTongue
  exact goodIn_ca (goodIn_r _ [2704, 1826, 1911] (by decide +kernel) (by decide +kernel)) gb_f_RX12
set_option maxRecDepth 100000 in
theorem gl_wqX12_markTongue_67 : GoodIn lw_tbl (wsV RL 67 RX12 yX12_markTongue wqX12_markTongue) := goodIn_app (goodIn_r _ [2701, 2702, 2703, 255] (by decide +kernel) (by decide +kernel)) gb_wqX12_markTongue
set_option maxRecDepth 100000 in
theorem gb_wsX11_failure : GoodIn lw_tbl wsX11_failure := goodIn_r _ [1790, 681, 1791, 1792, 1793, 251, 1794, 627, 636, 1795, 1796, 1797, 252, 1798, 1799, 1366, 1367, 1368, 545, 546, 544, 1369, 1353, 1354, 247, 1355, 390, 387, 1365, 682, 684, 686, 688, 690, 692, 694, 696, 698, 638, 640, 642, 644, 646, 648, 650, 652, 654, 656, 658, 660, 662, 664, 666, 668, 670, 549, 551, 553, 555, 557, 391, 393, 395, 397] (by decide +kernel) (by decide +kernel)
set_option maxRecDepth 100000 in
theorem gl_wsX11_failure_68 : GoodIn lw_tbl (wsV RL 68 RX11 yX11_failure wsX11_failure) := goodIn_app (goodIn_r _ [1787, 1788, 1789, 238] (by decide +kernel) (by decide +kernel)) gb_wsX11_failure
set_option maxRecDepth 100000 in
theorem gb_wqX12_failureAt : GoodIn lw_tbl wqX12_failureAt := by
  unfold wqX12_failureAt
  exact goodIn_ca (goodIn_r _ [2712, 1918] (by decide +kernel) (by decide +kernel)) gb_f_RX12
set_option maxRecDepth 100000 in
theorem gb_wqX12_told : GoodIn lw_tbl wqX12_told := by
  unfold wqX12_told
  exact goodIn_r _ [2716] (by decide +kernel) (by decide +kernel)
set_option maxRecDepth 100000 in
theorem gb_wqX12_failure : GoodIn lw_tbl wqX12_failure := by
  unfold wqX12_failure
  exact goodIn_ca (goodIn_r _ [2708, 1826, 2709, 2711, 234, 255, 2713, 2715, 235] (by decide +kernel) (by decide +kernel)) (goodIn_app gb_f_RX12 (goodIn_app gb_wqX12_failureAt gb_wqX12_told))
set_option maxRecDepth 100000 in
theorem gl_wqX12_failure_71 : GoodIn lw_tbl (wsV RL 71 RX12 yX12_failure wqX12_failure) := goodIn_app (goodIn_r _ [2705, 2706, 2707, 255] (by decide +kernel) (by decide +kernel)) gb_wqX12_failure
set_option maxRecDepth 100000 in
theorem gb_wsX11_under : GoodIn lw_tbl wsX11_under := goodIn_r _ [1803, 681, 1804, 1805, 1806, 251, 1807, 627, 636, 1795, 1796, 1797, 252, 1798, 1799, 1366, 1367, 1368, 545, 546, 544, 1369, 1353, 1354, 247, 1355, 390, 387, 1808, 1809, 1810, 1811, 548, 547, 1365, 682, 684, 686, 688, 690, 692, 694, 696, 698, 638, 640, 642, 644, 646, 648, 650, 652, 654, 656, 658, 660, 662, 664, 666, 668, 670, 549, 551, 553, 555, 557, 391, 393, 395, 397] (by decide +kernel) (by decide +kernel)
set_option maxRecDepth 100000 in
theorem gl_wsX11_under_72 : GoodIn lw_tbl (wsV RL 72 RX11 yX11_under wsX11_under) := goodIn_app (goodIn_r _ [1800, 1801, 1802, 238] (by decide +kernel) (by decide +kernel)) gb_wsX11_under
set_option maxRecDepth 100000 in
theorem gb_wqX12_under : GoodIn lw_tbl wqX12_under := by
  unfold wqX12_under
  exact goodIn_ca (goodIn_r _ [2724, 1826, 2709, 2711, 234, 255] (by decide +kernel) (by decide +kernel)) (goodIn_app gb_f_RX12 gb_wqX12_failureAt)
set_option maxRecDepth 100000 in
theorem gl_wqX12_under_76 : GoodIn lw_tbl (wsV RL 76 RX12 yX12_under wqX12_under) := goodIn_app (goodIn_r _ [2721, 2722, 2723, 255] (by decide +kernel) (by decide +kernel)) gb_wqX12_under
theorem in_law_RX0 : ∀ w ∈ u_ws RX0 TX0 6, w ∈ lw_tbl := fun w h => (gb_f_RX0 w h).1
theorem in_law_RX1 : ∀ w ∈ u_ws RX1 TX1 5, w ∈ lw_tbl := fun w h => (gb_f_RX1 w h).1
theorem in_law_RX10 : ∀ w ∈ u_ws RX10 TX10 16, w ∈ lw_tbl := fun w h => (gb_f_RX10 w h).1
theorem in_law_RX11 : ∀ w ∈ u_ws RX11 TX11 9, w ∈ lw_tbl := fun w h => (gb_f_RX11 w h).1
theorem in_law_RX12 : ∀ w ∈ u_ws RX12 TX12 106, w ∈ lw_tbl := fun w h => (gb_f_RX12 w h).1
theorem in_law_RX2 : ∀ w ∈ u_ws RX2 TX2 8, w ∈ lw_tbl := fun w h => (gb_f_RX2 w h).1
theorem in_law_RX3 : ∀ w ∈ u_ws RX3 TX3 7, w ∈ lw_tbl := fun w h => (gb_f_RX3 w h).1
theorem in_law_RX4 : ∀ w ∈ u_ws RX4 TX4 17, w ∈ lw_tbl := fun w h => (gb_f_RX4 w h).1
theorem in_law_RX5 : ∀ w ∈ u_ws RX5 TX5 5, w ∈ lw_tbl := fun w h => (gb_f_RX5 w h).1
theorem in_law_RX7 : ∀ w ∈ u_ws RX7 TX7 11, w ∈ lw_tbl := fun w h => (gb_f_RX7 w h).1
theorem in_law_RX8 : ∀ w ∈ u_ws RX8 TX8 8, w ∈ lw_tbl := fun w h => (gb_f_RX8 w h).1
theorem in_law_RX9 : ∀ w ∈ u_ws RX9 TX9 4, w ∈ lw_tbl := fun w h => (gb_f_RX9 w h).1
