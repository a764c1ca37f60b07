/-! places out of places, what may be written where -/
theorem dHall_Mover_4 : ∀ a ∈ pHall, ∀ b ∈ pMover, a ≠ b + 4 := by decide +kernel
theorem dLink_Mover_4 : ∀ a ∈ pLink, ∀ b ∈ pMover, a ≠ b + 4 := by decide +kernel
theorem dMS_1_Burst : ∀ a ∈ pMS, ∀ b ∈ pBurst, a + 1 ≠ b := by decide +kernel
theorem dStation_Hall : ∀ a ∈ pStation, ∀ b ∈ pHall, a ≠ b := by decide +kernel
theorem dStation_Link : ∀ a ∈ pStation, ∀ b ∈ pLink, a ≠ b := by decide +kernel
theorem qBurst_bc6 : ∀ a ∈ pBurst, BC (a) 6 = true := by decide +kernel
theorem qBurst_kc6 : ∀ a ∈ pBurst, KC (a) 6 = false := by decide +kernel
theorem qBurst_na : ∀ a ∈ pBurst, ¬ (a) ∈ pArr := by decide +kernel
theorem qBurst_ok0 : ∀ a ∈ pBurst, okW (a) 0 := by decide +kernel
theorem qBurst_ok1 : ∀ a ∈ pBurst, okW (a) 1 := by decide +kernel
theorem qBurst_ok2 : ∀ a ∈ pBurst, okW (a) 2 := by decide +kernel
theorem qBurst_ok3 : ∀ a ∈ pBurst, okW (a) 3 := by decide +kernel
theorem qBurst_ok4 : ∀ a ∈ pBurst, okW (a) 4 := by decide +kernel
theorem qBurst_ok5 : ∀ a ∈ pBurst, okW (a) 5 := by decide +kernel
theorem qHall_1_inArr : ∀ a ∈ pHall, a + 1 ∈ pArr := by decide +kernel
theorem qHall_2_inArr : ∀ a ∈ pHall, a + 2 ∈ pArr := by decide +kernel
theorem qHall_bc8 : ∀ a ∈ pHall, BC (a) 8 = true := by decide +kernel
theorem qHall_kc8 : ∀ a ∈ pHall, KC (a) 8 = false := by decide +kernel
theorem qHall_na : ∀ a ∈ pHall, ¬ (a) ∈ pArr := by decide +kernel
theorem qHall_ok2 : ∀ a ∈ pHall, okW (a) 2 := by decide +kernel
theorem qHall_ok3 : ∀ a ∈ pHall, okW (a) 3 := by decide +kernel
theorem qHall_ok4 : ∀ a ∈ pHall, okW (a) 4 := by decide +kernel
theorem qHall_ok5 : ∀ a ∈ pHall, okW (a) 5 := by decide +kernel
theorem qHall_ok6 : ∀ a ∈ pHall, okW (a) 6 := by decide +kernel
theorem qHall_ok7 : ∀ a ∈ pHall, okW (a) 7 := by decide +kernel
theorem qLinkT_1_inArr : ∀ a ∈ pLinkT, a + 1 ∈ pArr := by decide +kernel
theorem qLinkT_inLink : ∀ a ∈ pLinkT, a ∈ pLink := by decide +kernel
theorem qLinkT_kc12 : ∀ a ∈ pLinkT, KC (a) 12 = false := by decide +kernel
theorem qLinkT_kc13 : ∀ a ∈ pLinkT, KC (a) 13 = false := by decide +kernel
theorem qLinkT_ok1 : ∀ a ∈ pLinkT, okW (a) 1 := by decide +kernel
theorem qLinkT_ok10 : ∀ a ∈ pLinkT, okW (a) 10 := by decide +kernel
theorem qLinkT_ok11 : ∀ a ∈ pLinkT, okW (a) 11 := by decide +kernel
theorem qLinkT_ok2 : ∀ a ∈ pLinkT, okW (a) 2 := by decide +kernel
theorem qLinkT_ok3 : ∀ a ∈ pLinkT, okW (a) 3 := by decide +kernel
theorem qLinkT_ok4 : ∀ a ∈ pLinkT, okW (a) 4 := by decide +kernel
theorem qLinkT_ok5 : ∀ a ∈ pLinkT, okW (a) 5 := by decide +kernel
theorem qLinkT_ok6 : ∀ a ∈ pLinkT, okW (a) 6 := by decide +kernel
theorem qLinkT_ok7 : ∀ a ∈ pLinkT, okW (a) 7 := by decide +kernel
theorem qLinkT_ok8 : ∀ a ∈ pLinkT, okW (a) 8 := by decide +kernel
theorem qLinkT_ok9 : ∀ a ∈ pLinkT, okW (a) 9 := by decide +kernel
theorem qLink_1_inArr : ∀ a ∈ pLink, a + 1 ∈ pArr := by decide +kernel
theorem qLink_bc12 : ∀ a ∈ pLink, BC (a) 12 = true := by decide +kernel
theorem qLink_bc13 : ∀ a ∈ pLink, BC (a) 13 = true := by decide +kernel
theorem qLink_kc12 : ∀ a ∈ pLink, KC (a) 12 = false := by decide +kernel
theorem qLink_kc13 : ∀ a ∈ pLink, KC (a) 13 = false := by decide +kernel
theorem qLink_ok10 : ∀ a ∈ pLink, okW (a) 10 := by decide +kernel
theorem qLink_ok11 : ∀ a ∈ pLink, okW (a) 11 := by decide +kernel
theorem qLink_ok6 : ∀ a ∈ pLink, okW (a) 6 := by decide +kernel
theorem qLink_ok7 : ∀ a ∈ pLink, okW (a) 7 := by decide +kernel
theorem qLink_ok8 : ∀ a ∈ pLink, okW (a) 8 := by decide +kernel
theorem qLink_ok9 : ∀ a ∈ pLink, okW (a) 9 := by decide +kernel
theorem qMS_167_15_m3_6_inHall : ∀ a ∈ pMS, ∀ i, i < 6 → a + 167 + 15 + 3 * i ∈ pHall := by decide +kernel
theorem qMS_167_33_m2_10_inLinkT : ∀ a ∈ pMS, ∀ i, i < 10 → a + 167 + 33 + 2 * i ∈ pLinkT := by decide +kernel
theorem qMS_167_inStation : ∀ a ∈ pMS, a + 167 ∈ pStation := by decide +kernel
theorem qMS_167_inTried : ∀ a ∈ pMS, a + 167 ∈ pTried := by decide +kernel
theorem qMS_1_13_inLoads : ∀ a ∈ pMS, a + 1 + 13 ∈ pLoads := by decide +kernel
theorem qMS_1_15_m3_6_inHall : ∀ a ∈ pMS, ∀ i, i < 6 → a + 1 + 15 + 3 * i ∈ pHall := by decide +kernel
theorem qMS_1_33_m2_10_inLink : ∀ a ∈ pMS, ∀ i, i < 10 → a + 1 + 33 + 2 * i ∈ pLink := by decide +kernel
theorem qMS_1_4_inDays : ∀ a ∈ pMS, a + 1 + 4 ∈ pDays := by decide +kernel
theorem qMS_1_53_m1_30_inBurst : ∀ a ∈ pMS, ∀ i, i < 30 → a + 1 + 53 + 1 * i ∈ pBurst := by decide +kernel
theorem qMS_1_7_inMends : ∀ a ∈ pMS, a + 1 + 7 ∈ pMends := by decide +kernel
theorem qMS_1_inStation : ∀ a ∈ pMS, a + 1 ∈ pStation := by decide +kernel
theorem qMS_250_1_inRoutes : ∀ a ∈ pMS, a + 250 + 1 ∈ pRoutes := by decide +kernel
theorem qMS_250_inMover : ∀ a ∈ pMS, a + 250 ∈ pMover := by decide +kernel
theorem qMS_255_inReader : ∀ a ∈ pMS, a + 255 ∈ pReader := by decide +kernel
theorem qMS_260_inText : ∀ a ∈ pMS, a + 260 ∈ pText := by decide +kernel
theorem qMS_267_m6_4_inText : ∀ a ∈ pMS, ∀ i, i < 4 → a + 267 + 6 * i ∈ pText := by decide +kernel
theorem qMends_5_inArr : ∀ a ∈ pMends, a + 5 ∈ pArr := by decide +kernel
theorem qMover_1_inRoutes : ∀ a ∈ pMover, a + 1 ∈ pRoutes := by decide +kernel
theorem qMover_4_inArr : ∀ a ∈ pMover, a + 4 ∈ pArr := by decide +kernel
theorem qMover_4_inNames : ∀ a ∈ pMover, a + 4 ∈ pNames := by decide +kernel
theorem qReader_2_inArr : ∀ a ∈ pReader, a + 2 ∈ pArr := by decide +kernel
theorem qReader_3_inArr : ∀ a ∈ pReader, a + 3 ∈ pArr := by decide +kernel
theorem qReader_4_inArr : ∀ a ∈ pReader, a + 4 ∈ pArr := by decide +kernel
theorem qReader_ok7 : ∀ a ∈ pReader, okW (a) 7 := by decide +kernel
theorem qRoutes_1_inArr : ∀ a ∈ pRoutes, a + 1 ∈ pArr := by decide +kernel
theorem qRoutes_2_inArr : ∀ a ∈ pRoutes, a + 2 ∈ pArr := by decide +kernel
theorem qRoutes_ok2 : ∀ a ∈ pRoutes, okW (a) 2 := by decide +kernel
theorem qStation_15_m3_6_inHall : ∀ a ∈ pStation, ∀ i, i < 6 → a + 15 + 3 * i ∈ pHall := by decide +kernel
theorem qStation_33_m2_10_inLink : ∀ a ∈ pStation, ∀ i, i < 10 → a + 33 + 2 * i ∈ pLink := by decide +kernel
theorem qStation_53_m1_30_inBurst : ∀ a ∈ pStation, ∀ i, i < 30 → a + 53 + 1 * i ∈ pBurst := by decide +kernel
theorem qStation_na : ∀ a ∈ pStation, ¬ (a) ∈ pArr := by decide +kernel
theorem qStation_ok12 : ∀ a ∈ pStation, okW (a) 12 := by decide +kernel
theorem qStation_ok13 : ∀ a ∈ pStation, okW (a) 13 := by decide +kernel
theorem qStation_ok14 : ∀ a ∈ pStation, okW (a) 14 := by decide +kernel
theorem qStation_ok15 : ∀ a ∈ pStation, okW (a) 15 := by decide +kernel
theorem qText_1_inArr : ∀ a ∈ pText, a + 1 ∈ pArr := by decide +kernel
theorem qText_2_inArr : ∀ a ∈ pText, a + 2 ∈ pArr := by decide +kernel
theorem qText_3_inArr : ∀ a ∈ pText, a + 3 ∈ pArr := by decide +kernel
theorem qText_4_inArr : ∀ a ∈ pText, a + 4 ∈ pArr := by decide +kernel
theorem qText_5_inArr : ∀ a ∈ pText, a + 5 ∈ pArr := by decide +kernel
theorem qText_ok5 : ∀ a ∈ pText, okW (a) 5 := by decide +kernel
theorem qText_ok6 : ∀ a ∈ pText, okW (a) 6 := by decide +kernel
theorem qTried_15_m3_6_inHall : ∀ a ∈ pTried, ∀ i, i < 6 → a + 15 + 3 * i ∈ pHall := by decide +kernel
theorem qTried_33_m2_10_inLinkT : ∀ a ∈ pTried, ∀ i, i < 10 → a + 33 + 2 * i ∈ pLinkT := by decide +kernel
theorem qTried_53_m1_30_inBurst : ∀ a ∈ pTried, ∀ i, i < 30 → a + 53 + 1 * i ∈ pBurst := by decide +kernel
theorem qTried_inStation : ∀ a ∈ pTried, a ∈ pStation := by decide +kernel
theorem qTried_ok12 : ∀ a ∈ pTried, okW (a) 12 := by decide +kernel
theorem qTried_ok13 : ∀ a ∈ pTried, okW (a) 13 := by decide +kernel
theorem qTried_ok14 : ∀ a ∈ pTried, okW (a) 14 := by decide +kernel
theorem qTried_ok15 : ∀ a ∈ pTried, okW (a) 15 := by decide +kernel
theorem qTried_ok6 : ∀ a ∈ pTried, okW (a) 6 := by decide +kernel
theorem qTried_ok7 : ∀ a ∈ pTried, okW (a) 7 := by decide +kernel
theorem qTried_ok8 : ∀ a ∈ pTried, okW (a) 8 := by decide +kernel
theorem qTried_ok9 : ∀ a ∈ pTried, okW (a) 9 := by decide +kernel
