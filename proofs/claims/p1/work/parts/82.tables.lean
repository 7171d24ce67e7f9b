theorem in_pos {big ws : List Cond} (ps : List Nat) (h : ws = ps.filterMap (fun i => big[i]?)) : ∀ w ∈ ws, w ∈ big := by
  intro w hw
  rw [h] at hw
  obtain ⟨i, -, hi⟩ := List.mem_filterMap.mp hw
  first | exact List.mem_of_getElem? hi | exact List.getElem?_mem hi
set_option maxRecDepth 20000 in
theorem GWu0_in : ∀ w ∈ u_ws RX0 TX0 12, w ∈ lw_tbl := in_pos [450, 452, 454, 456, 458, 460, 462, 464, 466, 468, 470, 472] (by decide +kernel)
set_option maxRecDepth 20000 in
theorem GWu1_in : ∀ w ∈ u_ws RX1 TX1 15, w ∈ lw_tbl := in_pos [319, 321, 323, 325, 327, 329, 331, 333, 335, 337, 339, 341, 343, 345, 347] (by decide +kernel)
set_option maxRecDepth 20000 in
theorem GWu2_in : ∀ w ∈ u_ws RX2 TX2 8, w ∈ lw_tbl := in_pos [530, 532, 534, 536, 538, 540, 542, 544] (by decide +kernel)
set_option maxRecDepth 20000 in
theorem GWu3_in : ∀ w ∈ u_ws RX3 TX3 16, w ∈ lw_tbl := in_pos [388, 390, 392, 394, 396, 398, 400, 402, 404, 406, 408, 410, 412, 414, 416, 418] (by decide +kernel)
set_option maxRecDepth 20000 in
theorem GWu4_in : ∀ w ∈ u_ws RX4 TX4 17, w ∈ lw_tbl := in_pos [1157, 1159, 1161, 1163, 1165, 1167, 1169, 1171, 1173, 1175, 1177, 1179, 1181, 1183, 1185, 1187, 1189] (by decide +kernel)
set_option maxRecDepth 20000 in
theorem GWu5_in : ∀ w ∈ u_ws RX5 TX5 7, w ∈ lw_tbl := in_pos [942, 944, 946, 948, 950, 952, 954] (by decide +kernel)
set_option maxRecDepth 20000 in
theorem GWu6_in : ∀ w ∈ u_ws RX6 TX6 7, w ∈ lw_tbl := in_pos [491, 493, 495, 497, 499, 501, 503] (by decide +kernel)
set_option maxRecDepth 20000 in
theorem GWu7_in : ∀ w ∈ u_ws RX7 TX7 6, w ∈ lw_tbl := in_pos [565, 567, 569, 571, 573, 575] (by decide +kernel)
set_option maxRecDepth 20000 in
theorem GWu8_in : ∀ w ∈ u_ws RX8 TX8 7, w ∈ lw_tbl := in_pos [284, 286, 288, 290, 292, 294, 296] (by decide +kernel)
set_option maxRecDepth 20000 in
theorem GWu9_in : ∀ w ∈ u_ws RX9 TX9 1, w ∈ lw_tbl := in_pos [896] (by decide +kernel)
set_option maxRecDepth 20000 in
theorem GWu10_in : ∀ w ∈ u_ws RX10 TX10 5, w ∈ lw_tbl := in_pos [248, 250, 252, 254, 256] (by decide +kernel)
set_option maxRecDepth 20000 in
theorem GWu11_in : ∀ w ∈ u_ws RX11 TX11 15, w ∈ lw_tbl := in_pos [593, 595, 597, 599, 601, 603, 605, 607, 609, 611, 613, 615, 617, 619, 621] (by decide +kernel)
set_option maxRecDepth 20000 in
theorem GWu12_in : ∀ w ∈ u_ws RX12 TX12 114, w ∈ lw_tbl := in_pos [2150, 2152, 2154, 2156, 2158, 2160, 2162, 2164, 2166, 2168, 2170, 2172, 2174, 2176, 2178, 2180, 2182, 2184, 2186, 2188, 2190, 2192, 2194, 2196, 2198, 2200, 2202, 2204, 2206, 2208, 2210, 2212, 2214, 2216, 2218, 2220, 2222, 2224, 2226, 2228, 2230, 2232, 2234, 2236, 2238, 2240, 2242, 2244, 2246, 2248, 2250, 2252, 2254, 2256, 2258, 2260, 2262, 2264, 2266, 2268, 2270, 2272, 2274, 2276, 2278, 2280, 2282, 2284, 2286, 2288, 2290, 2292, 2294, 2296, 2298, 2300, 2302, 2304, 2306, 2308, 2310, 2312, 2314, 2316, 2318, 2320, 2322, 2324, 2326, 2328, 2330, 2332, 2334, 2336, 2338, 2340, 2342, 2344, 2346, 2348, 2350, 2352, 2354, 2356, 2358, 2360, 2362, 2364, 2366, 2368, 2370, 2372, 2374, 2376] (by decide +kernel)
set_option maxRecDepth 20000 in
theorem GWu13_in : ∀ w ∈ u_ws RJ4 TJ4 4, w ∈ lw_tbl := in_pos [207, 209, 211, 213] (by decide +kernel)
set_option maxRecDepth 20000 in
theorem GWx0_in : ∀ w ∈ GWx0, w ∈ lw_tbl := by decide +kernel
set_option maxRecDepth 20000 in
theorem GWx1_in : ∀ w ∈ GWx1, w ∈ lw_tbl := by decide +kernel
theorem GW_in : ∀ w ∈ GW, w ∈ lw_tbl := (List.forall_mem_append.mpr ⟨GWa0_in, (List.forall_mem_append.mpr ⟨GWa1_in, (List.forall_mem_append.mpr ⟨GWa2_in, (List.forall_mem_append.mpr ⟨GWa3_in, (List.forall_mem_append.mpr ⟨GWa4_in, (List.forall_mem_append.mpr ⟨GWa5_in, (List.forall_mem_append.mpr ⟨GWa6_in, (List.forall_mem_append.mpr ⟨GWa7_in, (List.forall_mem_append.mpr ⟨GWa8_in, (List.forall_mem_append.mpr ⟨GWa9_in, (List.forall_mem_append.mpr ⟨GWa10_in, (List.forall_mem_append.mpr ⟨GWa11_in, (List.forall_mem_append.mpr ⟨GWa12_in, (List.forall_mem_append.mpr ⟨GWa13_in, (List.forall_mem_append.mpr ⟨GWa14_in, (List.forall_mem_append.mpr ⟨GWa15_in, (List.forall_mem_append.mpr ⟨GWa16_in, (List.forall_mem_append.mpr ⟨GWa17_in, (List.forall_mem_append.mpr ⟨GWu0_in, (List.forall_mem_append.mpr ⟨GWu1_in, (List.forall_mem_append.mpr ⟨GWu2_in, (List.forall_mem_append.mpr ⟨GWu3_in, (List.forall_mem_append.mpr ⟨GWu4_in, (List.forall_mem_append.mpr ⟨GWu5_in, (List.forall_mem_append.mpr ⟨GWu6_in, (List.forall_mem_append.mpr ⟨GWu7_in, (List.forall_mem_append.mpr ⟨GWu8_in, (List.forall_mem_append.mpr ⟨GWu9_in, (List.forall_mem_append.mpr ⟨GWu10_in, (List.forall_mem_append.mpr ⟨GWu11_in, (List.forall_mem_append.mpr ⟨GWu12_in, (List.forall_mem_append.mpr ⟨GWu13_in, (List.forall_mem_append.mpr ⟨GWx0_in, GWx1_in⟩)⟩)⟩)⟩)⟩)⟩)⟩)⟩)⟩)⟩)⟩)⟩)⟩)⟩)⟩)⟩)⟩)⟩)⟩)⟩)⟩)⟩)⟩)⟩)⟩)⟩)⟩)⟩)⟩)⟩)⟩)⟩)⟩)
theorem tn_0 : Cond.methodLinkNest RX1 11 yX8_init "HarbourDesk" ∈ lw_tbl := (List.mem_append_right _ (List.mem_append_left _ (List.mem_of_getElem? (i := 124) (by decide +kernel))))
theorem tn_1 : Cond.methodLinkNest RX11 35 yX10_init "HarbourDesk" ∈ lw_tbl := (List.mem_append_right _ (List.mem_append_left _ (List.mem_of_getElem? (i := 78) (by decide +kernel))))
theorem tn_2 : Cond.methodLinkNest RX11 42 yX1_init "HarbourDesk" ∈ lw_tbl := (List.mem_append_right _ (List.mem_append_left _ (List.mem_of_getElem? (i := 118) (by decide +kernel))))
theorem tn_3 : Cond.methodLinkNest RX11 55 yX3_init "HarbourDesk" ∈ lw_tbl := (List.mem_append_right _ (List.mem_append_left _ (List.mem_of_getElem? (i := 211) (by decide +kernel))))
theorem tn_4 : Cond.methodLinkNest RX11 65 yX0_init "HarbourDesk" ∈ lw_tbl := (List.mem_append_right _ (List.mem_append_right _ (List.mem_append_left _ (List.mem_of_getElem? (i := 40) (by decide +kernel)))))
theorem tn_5 : Cond.methodLinkNest RX11 72 yX6_init "HarbourDesk" ∈ lw_tbl := (List.mem_append_right _ (List.mem_append_right _ (List.mem_append_left _ (List.mem_of_getElem? (i := 94) (by decide +kernel)))))
theorem tn_6 : Cond.methodLinkNest RX11 86 yX2_init "HarbourDesk" ∈ lw_tbl := (List.mem_append_right _ (List.mem_append_right _ (List.mem_append_left _ (List.mem_of_getElem? (i := 126) (by decide +kernel)))))
theorem tn_7 : Cond.declares ⟨"java/lang/RuntimeException", "<init>", "()V"⟩ ∈ lw_tbl := (List.mem_append_right _ (List.mem_append_right _ (List.mem_append_right _ (List.mem_append_left _ (List.mem_of_getElem? (i := 85) (by decide +kernel))))))
theorem tn_8 : Cond.declares ⟨"java/lang/Exception", "<init>", "()V"⟩ ∈ lw_tbl := (List.mem_append_right _ (List.mem_append_right _ (List.mem_append_right _ (List.mem_append_left _ (List.mem_of_getElem? (i := 87) (by decide +kernel))))))
theorem tn_9 : Cond.declares ⟨"java/lang/Throwable", "<init>", "()V"⟩ ∈ lw_tbl := (List.mem_append_right _ (List.mem_append_right _ (List.mem_append_right _ (List.mem_append_left _ (List.mem_of_getElem? (i := 89) (by decide +kernel))))))
theorem tn_10 : Cond.castable "java/lang/IllegalArgumentException" "java/lang/IllegalArgumentException" ∈ lw_tbl := (List.mem_append_right _ (List.mem_append_right _ (List.mem_append_right _ (List.mem_append_left _ (List.mem_of_getElem? (i := 84) (by decide +kernel))))))
theorem tn_11 : Cond.fieldLinkNest RX1 287 "HarbourDesk$Scanner" "size" "I" "HarbourDesk" ∈ lw_tbl := (List.mem_append_right _ (List.mem_append_left _ (List.mem_of_getElem? (i := 137) (by decide +kernel))))
theorem tn_12 : Cond.fieldLinkNest RX1 289 "HarbourDesk$Scanner" "kinds" "[I" "HarbourDesk" ∈ lw_tbl := (List.mem_append_right _ (List.mem_append_left _ (List.mem_of_getElem? (i := 129) (by decide +kernel))))
theorem tn_13 : Cond.fieldLinkNest RX1 295 "HarbourDesk$Scanner" "starts" "[I" "HarbourDesk" ∈ lw_tbl := (List.mem_append_right _ (List.mem_append_left _ (List.mem_of_getElem? (i := 131) (by decide +kernel))))
theorem tn_14 : Cond.fieldLinkNest RX11 108 "HarbourDesk$Describer" "fault" "I" "HarbourDesk" ∈ lw_tbl := (List.mem_append_right _ (List.mem_append_left _ (List.mem_of_getElem? (i := 167) (by decide +kernel))))
theorem tn_15 : Cond.fieldLinkNest RX11 114 "HarbourDesk$Describer" "faultPlace" "I" "HarbourDesk" ∈ lw_tbl := (List.mem_append_right _ (List.mem_append_left _ (List.mem_of_getElem? (i := 169) (by decide +kernel))))
theorem tn_16 : Cond.fieldLinkNest RX11 145 "HarbourDesk$Rows" "size" "I" "HarbourDesk" ∈ lw_tbl := (List.mem_append_right _ (List.mem_append_right _ (List.mem_append_left _ (List.mem_of_getElem? (i := 181) (by decide +kernel)))))
theorem tn_17 : Cond.fieldLinkNest RX11 157 "HarbourDesk$Line" "blame" "I" "HarbourDesk" ∈ lw_tbl := (List.mem_append_right _ (List.mem_append_left _ (List.mem_of_getElem? (i := 229) (by decide +kernel))))
theorem tn_18 : Cond.fieldLinkNest RX11 164 "HarbourDesk$Line" "size" "I" "HarbourDesk" ∈ lw_tbl := (List.mem_append_right _ (List.mem_append_left _ (List.mem_of_getElem? (i := 224) (by decide +kernel))))
theorem tn_19 : Cond.fieldLinkNest RX6 50 "HarbourDesk$Rows" "size" "I" "HarbourDesk" ∈ lw_tbl := (List.mem_append_right _ (List.mem_append_right _ (List.mem_append_left _ (List.mem_of_getElem? (i := 180) (by decide +kernel)))))
theorem tn_20 : Cond.fieldLinkNest RX11 292 "HarbourDesk$Line" "hasComment" "Z" "HarbourDesk" ∈ lw_tbl := (List.mem_append_right _ (List.mem_append_left _ (List.mem_of_getElem? (i := 226) (by decide +kernel))))
theorem tn_21 : Cond.fieldLinkNest RX11 236 "HarbourDesk$Proposals" "endCount" "I" "HarbourDesk" ∈ lw_tbl := (List.mem_append_right _ (List.mem_append_right _ (List.mem_append_left _ (List.mem_of_getElem? (i := 101) (by decide +kernel)))))
theorem tn_22 : Cond.fieldLinkNest RX11 239 "HarbourDesk$Proposals" "nearCount" "I" "HarbourDesk" ∈ lw_tbl := (List.mem_append_right _ (List.mem_append_right _ (List.mem_append_left _ (List.mem_of_getElem? (i := 104) (by decide +kernel)))))
theorem tn_23 : Cond.castable "java/util/NoSuchElementException" "java/util/NoSuchElementException" ∈ lw_tbl := (List.mem_append_right _ (List.mem_append_right _ (List.mem_append_right _ (List.mem_append_right _ (List.mem_append_right _ (List.mem_append_right _ (List.mem_append_left _ (List.mem_of_getElem? (i := 210) (by decide +kernel)))))))))
theorem NW_in : ∀ w ∈ NW, w ∈ lw_tbl := List.forall_mem_cons.mpr ⟨tn_0, List.forall_mem_cons.mpr ⟨tn_1, List.forall_mem_cons.mpr ⟨tn_2, List.forall_mem_cons.mpr ⟨tn_3, List.forall_mem_cons.mpr ⟨tn_4, List.forall_mem_cons.mpr ⟨tn_5, List.forall_mem_cons.mpr ⟨tn_6, List.forall_mem_cons.mpr ⟨tn_7, List.forall_mem_cons.mpr ⟨tn_8, List.forall_mem_cons.mpr ⟨tn_9, List.forall_mem_cons.mpr ⟨tn_10, List.forall_mem_cons.mpr ⟨tn_11, List.forall_mem_cons.mpr ⟨tn_12, List.forall_mem_cons.mpr ⟨tn_13, List.forall_mem_cons.mpr ⟨tn_14, List.forall_mem_cons.mpr ⟨tn_15, List.forall_mem_cons.mpr ⟨tn_16, List.forall_mem_cons.mpr ⟨tn_17, List.forall_mem_cons.mpr ⟨tn_18, List.forall_mem_cons.mpr ⟨tn_19, List.forall_mem_cons.mpr ⟨tn_20, List.forall_mem_cons.mpr ⟨tn_21, List.forall_mem_cons.mpr ⟨tn_22, List.forall_mem_cons.mpr ⟨tn_23, fun _ h => absurd h List.not_mem_nil⟩⟩⟩⟩⟩⟩⟩⟩⟩⟩⟩⟩⟩⟩⟩⟩⟩⟩⟩⟩⟩⟩⟩⟩
