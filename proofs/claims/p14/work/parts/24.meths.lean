noncomputable section
/-- OperaHouse.<init> -/
def zx_m0 : zx_MD := (zx_tb0, ((zx_fd zx_Fic0, zx_fd zx_Sc0, zx_fd zx_Cc0, zx_fd zx_Ic0, zx_has zx_Lc0, zx_fd [(8, true, 0, 255), (17, true, (-2147483648), 2147483647)], 1, true, (217, 16903), false), (zx_fd zx_Kc0, 4)))
/-- OperaHouse$House.<init> -/
def zx_m1 : zx_MD := (zx_tb1, ((zx_fd zx_Fic1, zx_fd zx_Sc1, zx_fd zx_Cc1, zx_fd zx_Ic1, zx_has zx_Lc1, zx_fd [(36, true, (-2147483648), 2147483647), (44, true, (-2147483648), 2147483647), (52, true, (-2147483648), 2147483647), (59, true, (-2147483648), 2147483647), (66, true, (-2147483648), 2147483647)], 2, true, (166, 2821), false), (zx_fd zx_Kc1, 4)))
/-- OperaHouse$Contract.<init> -/
def zx_m2 : zx_MD := (zx_tb2, ((zx_fd zx_Fic2, zx_fd zx_Sc2, zx_fd zx_Cc2, zx_fd zx_Ic2, zx_has zx_Lc2, zx_fd [(6, true, (-2147483648), 2147483647), (14, true, (-2147483648), 2147483647), (22, true, 0, 80), (30, true, (-2147483648), 2147483647)], 1, true, (4, 101), false), (zx_fd zx_Kc2, 4)))
/-- OperaHouse$Contract.blank -/
def zx_m3 : zx_MD := (zx_tb3, ((zx_fd zx_Fc2, zx_fd zx_Sc2, zx_fd zx_Cc2, zx_fd zx_Ic2, zx_has zx_Lc2, zx_fd [], 1, false, (0, 0), false), (zx_fd zx_Kc2, 4)))
/-- OperaHouse$Opera.<init> -/
def zx_m4 : zx_MD := (zx_tb4, ((zx_fd zx_Fic3, zx_fd zx_Sc3, zx_fd zx_Cc3, zx_fd zx_Ic3, zx_has zx_Lc3, zx_fd [(6, true, (-2147483648), 2147483647), (14, true, (-2147483648), 2147483647), (22, true, (-2147483648), 2147483647), (30, true, (-2147483648), 2147483647), (38, true, (-2147483648), 2147483647)], 1, true, (5, 36), false), (zx_fd zx_Kc3, 4)))
/-- OperaHouse$Calls.<init> -/
def zx_m5 : zx_MD := (zx_tb5, ((zx_fd zx_Fic4, zx_fd zx_Sc4, zx_fd zx_Cc4, zx_fd zx_Ic4, zx_has zx_Lc4, zx_fd [(7, true, (-2147483648), 2147483647), (15, true, (-2147483648), 2147483647), (23, true, (-2147483648), 2147483647), (31, true, 0, 3), (39, true, 0, 8), (47, true, (-2147483648), 2147483647), (55, true, 0, 59)], 1, true, (7, 420), false), (zx_fd zx_Kc4, 4)))
/-- OperaHouse$Ledger.<init> -/
def zx_m6 : zx_MD := (zx_tb6, ((zx_fd zx_Fic5, zx_fd zx_Sc5, zx_fd zx_Cc5, zx_fd zx_Ic5, zx_has zx_Lc5, zx_fd [(8, true, 0, 479), (17, true, (-1), 19), (26, true, (-2147483648), 2147483647), (35, true, 0, 1), (43, true, 0, 19), (51, true, (-2147483648), 2147483647), (59, true, (-2147483648), 2147483647), (68, true, 0, 1439), (77, true, (-2147483648), 2147483647), (86, true, (-2147483648), 2147483647), (95, true, (-1), 19), (104, true, (-1), 19), (113, true, (-1), 19), (122, true, (-2147483648), 2147483647), (130, true, (-2147483648), 2147483647), (139, true, (-2147483648), 2147483647)], 1, true, (16, 6480), false), (zx_fd zx_Kc5, 4)))
/-- OperaHouse$Wagons.<init> -/
def zx_m7 : zx_MD := (zx_tb7, ((zx_fd zx_Fic6, zx_fd zx_Sc6, zx_fd zx_Cc6, zx_fd zx_Ic6, zx_has zx_Lc6, zx_fd [(8, true, 0, 1), (16, true, 0, 624)], 1, true, (2, 745), false), (zx_fd zx_Kc6, 4)))
/-- OperaHouse$Reader.<init> -/
def zx_m8 : zx_MD := (zx_tb8, ((zx_fd zx_Fic7, zx_fd zx_Sc7, zx_fd zx_Cc7, zx_fd zx_Ic7, zx_has zx_Lc7, zx_fd [], 2, true, (5, 110), false), (zx_fd zx_Kc7, 4)))
/-- OperaHouse$Walk.<init> -/
def zx_m9 : zx_MD := (zx_tb9, ((zx_fd zx_Fic8, zx_fd zx_Sc8, zx_fd zx_Cc8, zx_fd zx_Ic8, zx_has zx_Lc8, zx_fd [(8, true, (-2147483648), 2147483647), (17, true, (-2147483648), 2147483647), (25, true, 0, 59), (33, true, (-2147483648), 2147483647), (41, true, (-2147483648), 2147483647)], 4, true, (5, 1090), false), (zx_fd zx_Kc8, 4)))
/-- OperaHouse$Judge.<init> -/
def zx_m10 : zx_MD := (zx_tb10, ((zx_fd zx_Fic9, zx_fd zx_Sc9, zx_fd zx_Cc9, zx_fd zx_Ic9, zx_has zx_Lc9, zx_fd [(7, true, (-2147483648), 2147483647)], 6, true, (1, 60), false), (zx_fd zx_Kc9, 4)))
/-- OperaHouse$Layer.<init> -/
def zx_m11 : zx_MD := (zx_tb11, ((zx_fd zx_Fic10, zx_fd zx_Sc10, zx_fd zx_Cc10, zx_fd zx_Ic10, zx_has zx_Lc10, zx_fd [(7, true, 0, 8), (15, true, (-1), 59), (23, true, (-2147483648), 2147483647), (32, true, (-2147483648), 2147483647), (40, true, (-2147483648), 2147483647)], 5, true, (5, 558), false), (zx_fd zx_Kc10, 4)))
/-- OperaHouse.feed -/
def zx_m12 : zx_MD := (zx_tb12, ((zx_fd zx_Fc0, zx_fd zx_Sc0, zx_fd zx_Cc0, zx_fd zx_Ic0, zx_has zx_Lc0, zx_fd [], 6, false, (0, 0), false), (zx_fd zx_Kc0, 0)))
/-- OperaHouse.putBytes -/
def zx_m13 : zx_MD := (zx_tb13, ((zx_fd zx_Fc0, zx_fd zx_Sc0, zx_fd zx_Cc0, zx_fd zx_Ic0, zx_has zx_Lc0, zx_fd [], 3, false, (0, 0), false), (zx_fd zx_Kc0, 4)))
/-- OperaHouse.end -/
def zx_m14 : zx_MD := (zx_tb14, ((zx_fd zx_Fc0, zx_fd zx_Sc0, zx_fd zx_Cc0, zx_fd zx_Ic0, zx_has zx_Lc0, zx_fd [], 2, false, (0, 0), false), (zx_fd zx_Kc0, 1)))
/-- OperaHouse.next -/
def zx_m15 : zx_MD := (zx_tb15, ((zx_fd zx_Fc0, zx_fd zx_Sc0, zx_fd zx_Cc0, zx_fd zx_Ic0, zx_has zx_Lc0, zx_fd [], 2, false, (0, 0), false), (zx_fd zx_Kc0, 0)))
/-- OperaHouse.opera -/
def zx_m16 : zx_MD := (zx_tb16, ((zx_fd zx_Fc0, zx_fd zx_Sc0, zx_fd zx_Cc0, zx_fd zx_Ic0, zx_has zx_Lc0, zx_fd [], 7, false, (0, 0), false), (zx_fd zx_Kc0, 0)))
/-- OperaHouse.emptiedTape -/
def zx_m17 : zx_MD := (zx_tb17, ((zx_fd zx_Fc0, zx_fd zx_Sc0, zx_fd zx_Cc0, zx_fd zx_Ic0, zx_has zx_Lc0, zx_fd [], 2, false, (0, 0), false), (zx_fd zx_Kc0, 0)))
/-- OperaHouse.within -/
def zx_m18 : zx_MD := (zx_tb18, ((zx_fd zx_Fc0, zx_fd zx_Sc0, zx_fd zx_Cc0, zx_fd zx_Ic0, zx_has zx_Lc0, zx_fd [], 3, false, (0, 0), false), (zx_fd zx_Kc0, 1)))
/-- OperaHouse$Opera.readTape -/
def zx_m19 : zx_MD := (zx_tb19, ((zx_fd zx_Fc3, zx_fd zx_Sc3, zx_fd zx_Cc3, zx_fd zx_Ic3, zx_has zx_Lc3, zx_fd [], 4, false, (0, 0), false), (zx_fd zx_Kc3, 1)))
/-- OperaHouse$Opera.readRole -/
def zx_m20 : zx_MD := (zx_tb20, ((zx_fd zx_Fc3, zx_fd zx_Sc3, zx_fd zx_Cc3, zx_fd zx_Ic3, zx_has zx_Lc3, zx_fd [], 4, false, (0, 0), false), (zx_fd zx_Kc3, 1)))
/-- OperaHouse.singer -/
def zx_m21 : zx_MD := (zx_tb21, ((zx_fd zx_Fc0, zx_fd zx_Sc0, zx_fd zx_Cc0, zx_fd zx_Ic0, zx_has zx_Lc0, zx_fd [], 5, false, (0, 0), false), (zx_fd zx_Kc0, 0)))
/-- OperaHouse.players -/
def zx_m22 : zx_MD := (zx_tb22, ((zx_fd zx_Fc0, zx_fd zx_Sc0, zx_fd zx_Cc0, zx_fd zx_Ic0, zx_has zx_Lc0, zx_fd [], 4, false, (0, 0), false), (zx_fd zx_Kc0, 1)))
/-- OperaHouse.chorus -/
def zx_m23 : zx_MD := (zx_tb23, ((zx_fd zx_Fc0, zx_fd zx_Sc0, zx_fd zx_Cc0, zx_fd zx_Ic0, zx_has zx_Lc0, zx_fd [], 3, false, (0, 0), false), (zx_fd zx_Kc0, 1)))
/-- OperaHouse.contract -/
def zx_m24 : zx_MD := (zx_tb24, ((zx_fd zx_Fc0, zx_fd zx_Sc0, zx_fd zx_Cc0, zx_fd zx_Ic0, zx_has zx_Lc0, zx_fd [], 5, false, (0, 0), false), (zx_fd zx_Kc0, 0)))
/-- OperaHouse$House.isSinger -/
def zx_m25 : zx_MD := (zx_tb25, ((zx_fd zx_Fc1, zx_fd zx_Sc1, zx_fd zx_Cc1, zx_fd zx_Ic1, zx_has zx_Lc1, zx_fd [], 2, false, (0, 0), false), (zx_fd zx_Kc1, 1)))
/-- OperaHouse$Reader.read -/
def zx_m26 : zx_MD := (zx_tb26, ((zx_fd zx_Fc7, zx_fd zx_Sc7, zx_fd zx_Cc7, zx_fd zx_Ic7, zx_has zx_Lc7, zx_fd [(100063, true, 0, 0), (100075, true, 0, 0), (500050, true, 0, 0), (500053, true, 1, 0)], 5, false, (0, 0), false), (zx_fd zx_Kc7, 0)))
/-- OperaHouse$Reader.advance -/
def zx_m27 : zx_MD := (zx_tb27, ((zx_fd zx_Fc7, zx_fd zx_Sc7, zx_fd zx_Cc7, zx_fd zx_Ic7, zx_has zx_Lc7, zx_fd [], 1, false, (0, 0), false), (zx_fd zx_Kc7, 4)))
/-- OperaHouse$Reader.isDigit -/
def zx_m28 : zx_MD := (zx_tb28, ((zx_fd zx_Fc7, zx_fd zx_Sc7, zx_fd zx_Cc7, zx_fd zx_Ic7, zx_has zx_Lc7, zx_fd [], 1, false, (0, 0), false), (zx_fd zx_Kc7, 1)))
/-- OperaHouse$Reader.isLetter -/
def zx_m29 : zx_MD := (zx_tb29, ((zx_fd zx_Fc7, zx_fd zx_Sc7, zx_fd zx_Cc7, zx_fd zx_Ic7, zx_has zx_Lc7, zx_fd [], 1, false, (0, 0), false), (zx_fd zx_Kc7, 1)))
/-- OperaHouse$Reader.readNumber -/
def zx_m30 : zx_MD := (zx_tb30, ((zx_fd zx_Fc7, zx_fd zx_Sc7, zx_fd zx_Cc7, zx_fd zx_Ic7, zx_has zx_Lc7, zx_fd [], 2, false, (0, 0), false), (zx_fd zx_Kc7, 3)))
/-- OperaHouse$Reader.limit -/
def zx_m31 : zx_MD := (zx_tb31, ((zx_fd zx_Fc7, zx_fd zx_Sc7, zx_fd zx_Cc7, zx_fd zx_Ic7, zx_has zx_Lc7, zx_fd [], 2, false, (0, 0), false), (zx_fd zx_Kc7, 1)))
/-- OperaHouse$Reader.blame -/
def zx_m32 : zx_MD := (zx_tb32, ((zx_fd zx_Fc7, zx_fd zx_Sc7, zx_fd zx_Cc7, zx_fd zx_Ic7, zx_has zx_Lc7, zx_fd [], 2, false, (0, 0), false), (zx_fd zx_Kc7, 1)))
/-- OperaHouse$Reader.isNumber -/
def zx_m33 : zx_MD := (zx_tb33, ((zx_fd zx_Fc7, zx_fd zx_Sc7, zx_fd zx_Cc7, zx_fd zx_Ic7, zx_has zx_Lc7, zx_fd [], 3, false, (0, 0), false), (zx_fd zx_Kc7, 1)))
/-- OperaHouse$Reader.passes -/
def zx_m34 : zx_MD := (zx_tb34, ((zx_fd zx_Fc7, zx_fd zx_Sc7, zx_fd zx_Cc7, zx_fd zx_Ic7, zx_has zx_Lc7, zx_fd [], 2, false, (0, 0), false), (zx_fd zx_Kc7, 1)))
/-- OperaHouse$Reader.leave -/
def zx_m35 : zx_MD := (zx_tb35, ((zx_fd zx_Fc7, zx_fd zx_Sc7, zx_fd zx_Cc7, zx_fd zx_Ic7, zx_has zx_Lc7, zx_fd [], 2, false, (0, 0), false), (zx_fd zx_Kc7, 1)))
/-- OperaHouse$Contract.addLeave -/
def zx_m36 : zx_MD := (zx_tb36, ((zx_fd zx_Fc2, zx_fd zx_Sc2, zx_fd zx_Cc2, zx_fd zx_Ic2, zx_has zx_Lc2, zx_fd [], 3, false, (0, 0), false), (zx_fd zx_Kc2, 4)))
/-- OperaHouse.daysBetween -/
def zx_m37 : zx_MD := (zx_tb37, ((zx_fd zx_Fc0, zx_fd zx_Sc0, zx_fd zx_Cc0, zx_fd zx_Ic0, zx_has zx_Lc0, zx_fd [], 4, false, (0, 0), false), (zx_fd zx_Kc0, 0)))
/-- OperaHouse$Reader.payment -/
def zx_m38 : zx_MD := (zx_tb38, ((zx_fd zx_Fc7, zx_fd zx_Sc7, zx_fd zx_Cc7, zx_fd zx_Ic7, zx_has zx_Lc7, zx_fd [], 2, false, (0, 0), false), (zx_fd zx_Kc7, 1)))
/-- OperaHouse$Reader.cond -/
def zx_m39 : zx_MD := (zx_tb39, ((zx_fd zx_Fc7, zx_fd zx_Sc7, zx_fd zx_Cc7, zx_fd zx_Ic7, zx_has zx_Lc7, zx_fd [], 4, false, (0, 0), false), (zx_fd zx_Kc7, 1)))
/-- OperaHouse$Reader.all -/
def zx_m40 : zx_MD := (zx_tb40, ((zx_fd zx_Fc7, zx_fd zx_Sc7, zx_fd zx_Cc7, zx_fd zx_Ic7, zx_has zx_Lc7, zx_fd [], 4, false, (0, 0), false), (zx_fd zx_Kc7, 1)))
/-- OperaHouse$Reader.one -/
def zx_m41 : zx_MD := (zx_tb41, ((zx_fd zx_Fc7, zx_fd zx_Sc7, zx_fd zx_Cc7, zx_fd zx_Ic7, zx_has zx_Lc7, zx_fd [(500050, true, 0, 0), (500053, true, 1, 0)], 4, false, (0, 0), false), (zx_fd zx_Kc7, 1)))
/-- OperaHouse$Token.beginsOne -/
def zx_m42 : zx_MD := (zx_tb42, ((zx_fd zx_Fc11, zx_fd zx_Sc11, zx_fd zx_Cc11, zx_fd zx_Ic11, zx_has zx_Lc11, zx_fd [(500119, true, 0, 0)], 1, false, (0, 0), false), (zx_fd zx_Kc11, 1)))
/-- OperaHouse$Contract.addStep -/
def zx_m43 : zx_MD := (zx_tb43, ((zx_fd zx_Fc2, zx_fd zx_Sc2, zx_fd zx_Cc2, zx_fd zx_Ic2, zx_has zx_Lc2, zx_fd [(200000, true, 0, 0)], 4, false, (0, 0), false), (zx_fd zx_Kc2, 4)))
/-- OperaHouse$Reader.measure -/
def zx_m44 : zx_MD := (zx_tb44, ((zx_fd zx_Fc7, zx_fd zx_Sc7, zx_fd zx_Cc7, zx_fd zx_Ic7, zx_has zx_Lc7, zx_fd [(500050, true, 0, 0), (500053, true, 1, 0)], 3, false, (0, 0), false), (zx_fd zx_Kc7, 1)))
/-- OperaHouse$Contract.endFee -/
def zx_m45 : zx_MD := (zx_tb45, ((zx_fd zx_Fc2, zx_fd zx_Sc2, zx_fd zx_Cc2, zx_fd zx_Ic2, zx_has zx_Lc2, zx_fd [(200000, true, 0, 0)], 2, false, (0, 0), false), (zx_fd zx_Kc2, 4)))
/-- OperaHouse.fault -/
def zx_m46 : zx_MD := (zx_tb46, ((zx_fd zx_Fc0, zx_fd zx_Sc0, zx_fd zx_Cc0, zx_fd zx_Ic0, zx_has zx_Lc0, zx_fd [], 1, false, (0, 0), false), (zx_fd zx_Kc0, 0)))
/-- OperaHouse.learn -/
def zx_m47 : zx_MD := (zx_tb47, ((zx_fd zx_Fc0, zx_fd zx_Sc0, zx_fd zx_Cc0, zx_fd zx_Ic0, zx_has zx_Lc0, zx_fd [], 5, false, (0, 0), false), (zx_fd zx_Kc0, 1)))
/-- OperaHouse$House.isRole -/
def zx_m48 : zx_MD := (zx_tb48, ((zx_fd zx_Fc1, zx_fd zx_Sc1, zx_fd zx_Cc1, zx_fd zx_Ic1, zx_has zx_Lc1, zx_fd [], 3, false, (0, 0), false), (zx_fd zx_Kc1, 1)))
/-- OperaHouse$House.isOpera -/
def zx_m49 : zx_MD := (zx_tb49, ((zx_fd zx_Fc1, zx_fd zx_Sc1, zx_fd zx_Cc1, zx_fd zx_Ic1, zx_has zx_Lc1, zx_fd [], 2, false, (0, 0), false), (zx_fd zx_Kc1, 1)))
/-- OperaHouse$Ledger.tellLesson -/
def zx_m50 : zx_MD := (zx_tb50, ((zx_fd zx_Fc5, zx_fd zx_Sc5, zx_fd zx_Cc5, zx_fd zx_Ic5, zx_has zx_Lc5, zx_fd [], 4, false, (0, 0), false), (zx_fd zx_Kc5, 4)))
/-- OperaHouse.call -/
def zx_m51 : zx_MD := (zx_tb51, ((zx_fd zx_Fc0, zx_fd zx_Sc0, zx_fd zx_Cc0, zx_fd zx_Ic0, zx_has zx_Lc0, zx_fd [], 7, false, (0, 0), false), (zx_fd zx_Kc0, 0)))
/-- OperaHouse$House.length -/
def zx_m52 : zx_MD := (zx_tb52, ((zx_fd zx_Fc1, zx_fd zx_Sc1, zx_fd zx_Cc1, zx_fd zx_Ic1, zx_has zx_Lc1, zx_fd [], 3, false, (0, 0), false), (zx_fd zx_Kc1, 0)))
/-- OperaHouse$Calls.put -/
def zx_m53 : zx_MD := (zx_tb53, ((zx_fd zx_Fc4, zx_fd zx_Sc4, zx_fd zx_Cc4, zx_fd zx_Ic4, zx_has zx_Lc4, zx_fd [], 9, false, (0, 0), false), (zx_fd zx_Kc4, 4)))
/-- OperaHouse.cast -/
def zx_m54 : zx_MD := (zx_tb54, ((zx_fd zx_Fc0, zx_fd zx_Sc0, zx_fd zx_Cc0, zx_fd zx_Ic0, zx_has zx_Lc0, zx_fd [], 5, false, (0, 0), false), (zx_fd zx_Kc0, 1)))
/-- OperaHouse.isSpot -/
def zx_m55 : zx_MD := (zx_tb55, ((zx_fd zx_Fc0, zx_fd zx_Sc0, zx_fd zx_Cc0, zx_fd zx_Ic0, zx_has zx_Lc0, zx_fd [], 3, false, (0, 0), false), (zx_fd zx_Kc0, 1)))
/-- OperaHouse$Calls.has -/
def zx_m56 : zx_MD := (zx_tb56, ((zx_fd zx_Fc4, zx_fd zx_Sc4, zx_fd zx_Cc4, zx_fd zx_Ic4, zx_has zx_Lc4, zx_fd [], 2, false, (0, 0), false), (zx_fd zx_Kc4, 1)))
/-- OperaHouse$Ledger.tellCast -/
def zx_m57 : zx_MD := (zx_tb57, ((zx_fd zx_Fc5, zx_fd zx_Sc5, zx_fd zx_Cc5, zx_fd zx_Ic5, zx_has zx_Lc5, zx_fd [], 5, false, (0, 0), false), (zx_fd zx_Kc5, 4)))
/-- OperaHouse.ill -/
def zx_m58 : zx_MD := (zx_tb58, ((zx_fd zx_Fc0, zx_fd zx_Sc0, zx_fd zx_Cc0, zx_fd zx_Ic0, zx_has zx_Lc0, zx_fd [], 4, false, (0, 0), false), (zx_fd zx_Kc0, 1)))
/-- OperaHouse$Ledger.tellIll -/
def zx_m59 : zx_MD := (zx_tb59, ((zx_fd zx_Fc5, zx_fd zx_Sc5, zx_fd zx_Cc5, zx_fd zx_Ic5, zx_has zx_Lc5, zx_fd [], 5, false, (0, 0), false), (zx_fd zx_Kc5, 4)))
/-- OperaHouse.who -/
def zx_m60 : zx_MD := (zx_tb60, ((zx_fd zx_Fc0, zx_fd zx_Sc0, zx_fd zx_Cc0, zx_fd zx_Ic0, zx_has zx_Lc0, zx_fd [], 6, false, (0, 0), false), (zx_fd zx_Kc0, 0)))
/-- OperaHouse$Ledger.know -/
def zx_m61 : zx_MD := (zx_tb61, ((zx_fd zx_Fc5, zx_fd zx_Sc5, zx_fd zx_Cc5, zx_fd zx_Ic5, zx_has zx_Lc5, zx_fd [], 3, false, (0, 0), false), (zx_fd zx_Kc5, 4)))
/-- java/util/Arrays.fill -/
def zx_m62 : zx_MD := (zx_tb62, ((zx_fd zx_Fc12, zx_fd zx_Sc12, zx_fd zx_Cc12, zx_fd zx_Ic12, zx_has zx_Lc12, zx_fd [], 4, false, (0, 0), false), (zx_fd zx_Kc12, 4)))
/-- OperaHouse$Ledger.assign -/
def zx_m63 : zx_MD := (zx_tb63, ((zx_fd zx_Fc5, zx_fd zx_Sc5, zx_fd zx_Cc5, zx_fd zx_Ic5, zx_has zx_Lc5, zx_fd [], 6, false, (0, 0), false), (zx_fd zx_Kc5, 4)))
/-- OperaHouse.wrong -/
def zx_m64 : zx_MD := (zx_tb64, ((zx_fd zx_Fc0, zx_fd zx_Sc0, zx_fd zx_Cc0, zx_fd zx_Ic0, zx_has zx_Lc0, zx_fd [], 2, false, (0, 0), false), (zx_fd zx_Kc0, 0)))
/-- OperaHouse$Judge.run -/
def zx_m65 : zx_MD := (zx_tb65, ((zx_fd zx_Fc9, zx_fd zx_Sc9, zx_fd zx_Cc9, zx_fd zx_Ic9, zx_has zx_Lc9, zx_fd [], 3, false, (0, 0), false), (zx_fd zx_Kc9, 4)))
/-- OperaHouse$Judge.judgeStage -/
def zx_m66 : zx_MD := (zx_tb66, ((zx_fd zx_Fc9, zx_fd zx_Sc9, zx_fd zx_Cc9, zx_fd zx_Ic9, zx_has zx_Lc9, zx_fd [], 7, false, (0, 0), false), (zx_fd zx_Kc9, 4)))
/-- OperaHouse$Calls.isOnAt -/
def zx_m67 : zx_MD := (zx_tb67, ((zx_fd zx_Fc4, zx_fd zx_Sc4, zx_fd zx_Cc4, zx_fd zx_Ic4, zx_has zx_Lc4, zx_fd [], 3, false, (0, 0), false), (zx_fd zx_Kc4, 1)))
/-- OperaHouse$Calls.isLong -/
def zx_m68 : zx_MD := (zx_tb68, ((zx_fd zx_Fc4, zx_fd zx_Sc4, zx_fd zx_Cc4, zx_fd zx_Ic4, zx_has zx_Lc4, zx_fd [], 2, false, (0, 0), false), (zx_fd zx_Kc4, 1)))
/-- OperaHouse$Judge.judgeReadiness -/
def zx_m69 : zx_MD := (zx_tb69, ((zx_fd zx_Fc9, zx_fd zx_Sc9, zx_fd zx_Cc9, zx_fd zx_Ic9, zx_has zx_Lc9, zx_fd [], 6, false, (0, 0), false), (zx_fd zx_Kc9, 4)))
/-- OperaHouse$Judge.firstEnd -/
def zx_m70 : zx_MD := (zx_tb70, ((zx_fd zx_Fc9, zx_fd zx_Sc9, zx_fd zx_Cc9, zx_fd zx_Ic9, zx_has zx_Lc9, zx_fd [], 6, false, (0, 0), false), (zx_fd zx_Kc9, 0)))
/-- OperaHouse$Judge.judgePlayers -/
def zx_m71 : zx_MD := (zx_tb71, ((zx_fd zx_Fc9, zx_fd zx_Sc9, zx_fd zx_Cc9, zx_fd zx_Ic9, zx_has zx_Lc9, zx_fd [], 5, false, (0, 0), false), (zx_fd zx_Kc9, 4)))
/-- OperaHouse$House.lacksPlayers -/
def zx_m72 : zx_MD := (zx_tb72, ((zx_fd zx_Fc1, zx_fd zx_Sc1, zx_fd zx_Cc1, zx_fd zx_Ic1, zx_has zx_Lc1, zx_fd [], 5, false, (0, 0), false), (zx_fd zx_Kc1, 1)))
/-- OperaHouse$Judge.judgeChorus -/
def zx_m73 : zx_MD := (zx_tb73, ((zx_fd zx_Fc9, zx_fd zx_Sc9, zx_fd zx_Cc9, zx_fd zx_Ic9, zx_has zx_Lc9, zx_fd [], 7, false, (0, 0), false), (zx_fd zx_Kc9, 4)))
/-- OperaHouse$Judge.needsChorus -/
def zx_m74 : zx_MD := (zx_tb74, ((zx_fd zx_Fc9, zx_fd zx_Sc9, zx_fd zx_Cc9, zx_fd zx_Ic9, zx_has zx_Lc9, zx_fd [], 2, false, (0, 0), false), (zx_fd zx_Kc9, 1)))
/-- OperaHouse$Calls.hours -/
def zx_m75 : zx_MD := (zx_tb75, ((zx_fd zx_Fc4, zx_fd zx_Sc4, zx_fd zx_Cc4, zx_fd zx_Ic4, zx_has zx_Lc4, zx_fd [], 2, false, (0, 0), false), (zx_fd zx_Kc4, 0)))
/-- OperaHouse$Calls.inWeekOf -/
def zx_m76 : zx_MD := (zx_tb76, ((zx_fd zx_Fc4, zx_fd zx_Sc4, zx_fd zx_Cc4, zx_fd zx_Ic4, zx_has zx_Lc4, zx_fd [], 3, false, (0, 0), false), (zx_fd zx_Kc4, 1)))
/-- OperaHouse$Judge.judgeVacant -/
def zx_m77 : zx_MD := (zx_tb77, ((zx_fd zx_Fc9, zx_fd zx_Sc9, zx_fd zx_Cc9, zx_fd zx_Ic9, zx_has zx_Lc9, zx_fd [], 5, false, (0, 0), false), (zx_fd zx_Kc9, 4)))
/-- OperaHouse$Judge.judgeSets -/
def zx_m78 : zx_MD := (zx_tb78, ((zx_fd zx_Fc9, zx_fd zx_Sc9, zx_fd zx_Cc9, zx_fd zx_Ic9, zx_has zx_Lc9, zx_fd [], 6, false, (0, 0), false), (zx_fd zx_Kc9, 4)))
/-- OperaHouse$Wagons.reset -/
def zx_m79 : zx_MD := (zx_tb79, ((zx_fd zx_Fc6, zx_fd zx_Sc6, zx_fd zx_Cc6, zx_fd zx_Ic6, zx_has zx_Lc6, zx_fd [], 2, false, (0, 0), false), (zx_fd zx_Kc6, 4)))
/-- OperaHouse$Wagons.reach -/
def zx_m80 : zx_MD := (zx_tb80, ((zx_fd zx_Fc6, zx_fd zx_Sc6, zx_fd zx_Cc6, zx_fd zx_Ic6, zx_has zx_Lc6, zx_fd [], 2, false, (0, 0), false), (zx_fd zx_Kc6, 4)))
/-- OperaHouse$Wagons.spread -/
def zx_m81 : zx_MD := (zx_tb81, ((zx_fd zx_Fc6, zx_fd zx_Sc6, zx_fd zx_Cc6, zx_fd zx_Ic6, zx_has zx_Lc6, zx_fd [], 6, false, (0, 0), false), (zx_fd zx_Kc6, 4)))
/-- OperaHouse$Wagons.moveAll -/
def zx_m82 : zx_MD := (zx_tb82, ((zx_fd zx_Fc6, zx_fd zx_Sc6, zx_fd zx_Cc6, zx_fd zx_Ic6, zx_has zx_Lc6, zx_fd [], 6, false, (0, 0), false), (zx_fd zx_Kc6, 4)))
/-- OperaHouse$Wagons.freePlace -/
def zx_m83 : zx_MD := (zx_tb83, ((zx_fd zx_Fc6, zx_fd zx_Sc6, zx_fd zx_Cc6, zx_fd zx_Ic6, zx_has zx_Lc6, zx_fd [], 3, false, (0, 0), false), (zx_fd zx_Kc6, 0)))
/-- OperaHouse$Wagons.placeOf -/
def zx_m84 : zx_MD := (zx_tb84, ((zx_fd zx_Fc6, zx_fd zx_Sc6, zx_fd zx_Cc6, zx_fd zx_Ic6, zx_has zx_Lc6, zx_fd [], 2, false, (0, 0), false), (zx_fd zx_Kc6, 0)))
/-- OperaHouse$Wagons.canShow -/
def zx_m85 : zx_MD := (zx_tb85, ((zx_fd zx_Fc6, zx_fd zx_Sc6, zx_fd zx_Cc6, zx_fd zx_Ic6, zx_has zx_Lc6, zx_fd [], 3, false, (0, 0), false), (zx_fd zx_Kc6, 1)))
/-- OperaHouse$Wagons.show -/
def zx_m86 : zx_MD := (zx_tb86, ((zx_fd zx_Fc6, zx_fd zx_Sc6, zx_fd zx_Cc6, zx_fd zx_Ic6, zx_has zx_Lc6, zx_fd [], 4, false, (0, 0), false), (zx_fd zx_Kc6, 4)))
/-- OperaHouse$Walk.inspect -/
def zx_m87 : zx_MD := (zx_tb87, ((zx_fd zx_Fc8, zx_fd zx_Sc8, zx_fd zx_Cc8, zx_fd zx_Ic8, zx_has zx_Lc8, zx_fd [], 8, false, (0, 0), false), (zx_fd zx_Kc8, 4)))
/-- OperaHouse$Walk.collectOwn -/
def zx_m88 : zx_MD := (zx_tb88, ((zx_fd zx_Fc8, zx_fd zx_Sc8, zx_fd zx_Cc8, zx_fd zx_Ic8, zx_has zx_Lc8, zx_fd [], 6, false, (0, 0), false), (zx_fd zx_Kc8, 4)))
/-- OperaHouse$Ledger.rolesOf -/
def zx_m89 : zx_MD := (zx_tb89, ((zx_fd zx_Fc5, zx_fd zx_Sc5, zx_fd zx_Cc5, zx_fd zx_Ic5, zx_has zx_Lc5, zx_fd [], 3, false, (0, 0), false), (zx_fd zx_Kc5, 0)))
/-- OperaHouse$Walk.load -/
def zx_m90 : zx_MD := (zx_tb90, ((zx_fd zx_Fc8, zx_fd zx_Sc8, zx_fd zx_Cc8, zx_fd zx_Ic8, zx_has zx_Lc8, zx_fd [], 7, false, (0, 0), false), (zx_fd zx_Kc8, 0)))
/-- OperaHouse$Walk.bitsOfCall -/
def zx_m91 : zx_MD := (zx_tb91, ((zx_fd zx_Fc8, zx_fd zx_Sc8, zx_fd zx_Cc8, zx_fd zx_Ic8, zx_has zx_Lc8, zx_fd [], 10, false, (0, 0), false), (zx_fd zx_Kc8, 0)))
/-- OperaHouse$Ledger.isSick -/
def zx_m92 : zx_MD := (zx_tb92, ((zx_fd zx_Fc5, zx_fd zx_Sc5, zx_fd zx_Cc5, zx_fd zx_Ic5, zx_has zx_Lc5, zx_fd [], 3, false, (0, 0), false), (zx_fd zx_Kc5, 1)))
/-- OperaHouse$Walk.bitsOfRole -/
def zx_m93 : zx_MD := (zx_tb93, ((zx_fd zx_Fc8, zx_fd zx_Sc8, zx_fd zx_Cc8, zx_fd zx_Ic8, zx_has zx_Lc8, zx_fd [], 7, false, (0, 0), false), (zx_fd zx_Kc8, 0)))
/-- OperaHouse$House.suits -/
def zx_m94 : zx_MD := (zx_tb94, ((zx_fd zx_Fc1, zx_fd zx_Sc1, zx_fd zx_Cc1, zx_fd zx_Ic1, zx_has zx_Lc1, zx_fd [], 6, false, (0, 0), false), (zx_fd zx_Kc1, 1)))
/-- OperaHouse$House.sizesApart -/
def zx_m95 : zx_MD := (zx_tb95, ((zx_fd zx_Fc1, zx_fd zx_Sc1, zx_fd zx_Cc1, zx_fd zx_Ic1, zx_has zx_Lc1, zx_fd [], 4, false, (0, 0), false), (zx_fd zx_Kc1, 0)))
/-- OperaHouse$Walk.learnedBy -/
def zx_m96 : zx_MD := (zx_tb96, ((zx_fd zx_Fc8, zx_fd zx_Sc8, zx_fd zx_Cc8, zx_fd zx_Ic8, zx_has zx_Lc8, zx_fd [], 8, false, (0, 0), false), (zx_fd zx_Kc8, 0)))
/-- OperaHouse$Judge.list -/
def zx_m97 : zx_MD := (zx_tb97, ((zx_fd zx_Fc9, zx_fd zx_Sc9, zx_fd zx_Cc9, zx_fd zx_Ic9, zx_has zx_Lc9, zx_fd [], 7, false, (0, 0), false), (zx_fd zx_Kc9, 0)))
/-- OperaHouse.learned -/
def zx_m98 : zx_MD := (zx_tb98, ((zx_fd zx_Fc0, zx_fd zx_Sc0, zx_fd zx_Cc0, zx_fd zx_Ic0, zx_has zx_Lc0, zx_fd [], 5, false, (0, 0), false), (zx_fd zx_Kc0, 0)))
/-- OperaHouse.tired -/
def zx_m99 : zx_MD := (zx_tb99, ((zx_fd zx_Fc0, zx_fd zx_Sc0, zx_fd zx_Cc0, zx_fd zx_Ic0, zx_has zx_Lc0, zx_fd [], 4, false, (0, 0), false), (zx_fd zx_Kc0, 0)))
/-- OperaHouse$Walk.tiredAt -/
def zx_m100 : zx_MD := (zx_tb100, ((zx_fd zx_Fc8, zx_fd zx_Sc8, zx_fd zx_Cc8, zx_fd zx_Ic8, zx_has zx_Lc8, zx_fd [], 7, false, (0, 0), false), (zx_fd zx_Kc8, 0)))
/-- OperaHouse.fee -/
def zx_m101 : zx_MD := (zx_tb101, ((zx_fd zx_Fc0, zx_fd zx_Sc0, zx_fd zx_Cc0, zx_fd zx_Ic0, zx_has zx_Lc0, zx_fd [], 4, false, (0, 0), false), (zx_fd zx_Kc0, 0)))
/-- OperaHouse$Walk.feeOf -/
def zx_m102 : zx_MD := (zx_tb102, ((zx_fd zx_Fc8, zx_fd zx_Sc8, zx_fd zx_Cc8, zx_fd zx_Ic8, zx_has zx_Lc8, zx_fd [], 5, false, (0, 0), false), (zx_fd zx_Kc8, 0)))
/-- OperaHouse$Ledger.covers -/
def zx_m103 : zx_MD := (zx_tb103, ((zx_fd zx_Fc5, zx_fd zx_Sc5, zx_fd zx_Cc5, zx_fd zx_Ic5, zx_has zx_Lc5, zx_fd [], 4, false, (0, 0), false), (zx_fd zx_Kc5, 1)))
/-- OperaHouse$Ledger.cameInstead -/
def zx_m104 : zx_MD := (zx_tb104, ((zx_fd zx_Fc5, zx_fd zx_Sc5, zx_fd zx_Cc5, zx_fd zx_Ic5, zx_has zx_Lc5, zx_fd [], 4, false, (0, 0), false), (zx_fd zx_Kc5, 1)))
/-- OperaHouse$Walk.countUpTo -/
def zx_m105 : zx_MD := (zx_tb105, ((zx_fd zx_Fc8, zx_fd zx_Sc8, zx_fd zx_Cc8, zx_fd zx_Ic8, zx_has zx_Lc8, zx_fd [], 8, false, (0, 0), false), (zx_fd zx_Kc8, 4)))
/-- OperaHouse$Contract.payFor -/
def zx_m106 : zx_MD := (zx_tb106, ((zx_fd zx_Fc2, zx_fd zx_Sc2, zx_fd zx_Cc2, zx_fd zx_Ic2, zx_has zx_Lc2, zx_fd [], 4, false, (0, 0), false), (zx_fd zx_Kc2, 0)))
/-- OperaHouse$Contract.holds -/
def zx_m107 : zx_MD := (zx_tb107, ((zx_fd zx_Fc2, zx_fd zx_Sc2, zx_fd zx_Cc2, zx_fd zx_Ic2, zx_has zx_Lc2, zx_fd [], 6, false, (0, 0), false), (zx_fd zx_Kc2, 1)))
/-- OperaHouse$Contract.after -/
def zx_m108 : zx_MD := (zx_tb108, ((zx_fd zx_Fc2, zx_fd zx_Sc2, zx_fd zx_Cc2, zx_fd zx_Ic2, zx_has zx_Lc2, zx_fd [], 5, false, (0, 0), false), (zx_fd zx_Kc2, 2)))
/-- OperaHouse$Contract.isSo -/
def zx_m109 : zx_MD := (zx_tb109, ((zx_fd zx_Fc2, zx_fd zx_Sc2, zx_fd zx_Cc2, zx_fd zx_Ic2, zx_has zx_Lc2, zx_fd [(500067, true, 1, 0)], 5, false, (0, 0), false), (zx_fd zx_Kc2, 1)))
/-- OperaHouse.pay -/
def zx_m110 : zx_MD := (zx_tb110, ((zx_fd zx_Fc0, zx_fd zx_Sc0, zx_fd zx_Cc0, zx_fd zx_Ic0, zx_has zx_Lc0, zx_fd [], 6, false, (0, 0), false), (zx_fd zx_Kc0, 0)))
/-- OperaHouse.moves -/
def zx_m111 : zx_MD := (zx_tb111, ((zx_fd zx_Fc0, zx_fd zx_Sc0, zx_fd zx_Cc0, zx_fd zx_Ic0, zx_has zx_Lc0, zx_fd [], 3, false, (0, 0), false), (zx_fd zx_Kc0, 0)))
/-- OperaHouse$Wagons.fewest -/
def zx_m112 : zx_MD := (zx_tb112, ((zx_fd zx_Fc6, zx_fd zx_Sc6, zx_fd zx_Cc6, zx_fd zx_Ic6, zx_has zx_Lc6, zx_fd [], 4, false, (0, 0), false), (zx_fd zx_Kc6, 0)))
/-- OperaHouse.may -/
def zx_m113 : zx_MD := (zx_tb113, ((zx_fd zx_Fc0, zx_fd zx_Sc0, zx_fd zx_Cc0, zx_fd zx_Ic0, zx_has zx_Lc0, zx_fd [], 4, false, (0, 0), false), (zx_fd zx_Kc0, 1)))
/-- OperaHouse$Walk.fits -/
def zx_m114 : zx_MD := (zx_tb114, ((zx_fd zx_Fc8, zx_fd zx_Sc8, zx_fd zx_Cc8, zx_fd zx_Ic8, zx_has zx_Lc8, zx_fd [], 8, false, (0, 0), false), (zx_fd zx_Kc8, 1)))
/-- OperaHouse.harm -/
def zx_m115 : zx_MD := (zx_tb115, ((zx_fd zx_Fc0, zx_fd zx_Sc0, zx_fd zx_Cc0, zx_fd zx_Ic0, zx_has zx_Lc0, zx_fd [], 4, false, (0, 0), false), (zx_fd zx_Kc0, 0)))
/-- OperaHouse$Walk.harmOf -/
def zx_m116 : zx_MD := (zx_tb116, ((zx_fd zx_Fc8, zx_fd zx_Sc8, zx_fd zx_Cc8, zx_fd zx_Ic8, zx_has zx_Lc8, zx_fd [], 11, false, (0, 0), false), (zx_fd zx_Kc8, 0)))
/-- OperaHouse.instead -/
def zx_m117 : zx_MD := (zx_tb117, ((zx_fd zx_Fc0, zx_fd zx_Sc0, zx_fd zx_Cc0, zx_fd zx_Ic0, zx_has zx_Lc0, zx_fd [], 7, false, (0, 0), false), (zx_fd zx_Kc0, 0)))
/-- OperaHouse.lay -/
def zx_m118 : zx_MD := (zx_tb118, ((zx_fd zx_Fc0, zx_fd zx_Sc0, zx_fd zx_Cc0, zx_fd zx_Ic0, zx_has zx_Lc0, zx_fd [], 5, false, (0, 0), false), (zx_fd zx_Kc0, 0)))
/-- OperaHouse$Layer.forget -/
def zx_m119 : zx_MD := (zx_tb119, ((zx_fd zx_Fc10, zx_fd zx_Sc10, zx_fd zx_Cc10, zx_fd zx_Ic10, zx_has zx_Lc10, zx_fd [], 1, false, (0, 0), false), (zx_fd zx_Kc10, 4)))
/-- OperaHouse$Layer.wish -/
def zx_m120 : zx_MD := (zx_tb120, ((zx_fd zx_Fc10, zx_fd zx_Sc10, zx_fd zx_Cc10, zx_fd zx_Ic10, zx_has zx_Lc10, zx_fd [(300046, true, 0, 0), (300066, true, 0, 0), (300086, true, 0, 0), (300101, true, 0, 0)], 5, false, (0, 0), false), (zx_fd zx_Kc10, 1)))
/-- OperaHouse$Calls.firstOf -/
def zx_m121 : zx_MD := (zx_tb121, ((zx_fd zx_Fc4, zx_fd zx_Sc4, zx_fd zx_Cc4, zx_fd zx_Ic4, zx_has zx_Lc4, zx_fd [], 3, false, (0, 0), false), (zx_fd zx_Kc4, 0)))
/-- OperaHouse$Layer.search -/
def zx_m122 : zx_MD := (zx_tb122, ((zx_fd zx_Fc10, zx_fd zx_Sc10, zx_fd zx_Cc10, zx_fd zx_Ic10, zx_has zx_Lc10, zx_fd [], 7, false, (0, 0), false), (zx_fd zx_Kc10, 0)))
/-- OperaHouse$Layer.takeBack -/
def zx_m123 : zx_MD := (zx_tb123, ((zx_fd zx_Fc10, zx_fd zx_Sc10, zx_fd zx_Cc10, zx_fd zx_Ic10, zx_has zx_Lc10, zx_fd [], 3, false, (0, 0), false), (zx_fd zx_Kc10, 4)))
/-- OperaHouse$Calls.dropLast -/
def zx_m124 : zx_MD := (zx_tb124, ((zx_fd zx_Fc4, zx_fd zx_Sc4, zx_fd zx_Cc4, zx_fd zx_Ic4, zx_has zx_Lc4, zx_fd [], 2, false, (0, 0), false), (zx_fd zx_Kc4, 4)))
/-- OperaHouse$Layer.placeNight -/
def zx_m125 : zx_MD := (zx_tb125, ((zx_fd zx_Fc10, zx_fd zx_Sc10, zx_fd zx_Cc10, zx_fd zx_Ic10, zx_has zx_Lc10, zx_fd [], 4, false, (0, 0), false), (zx_fd zx_Kc10, 4)))
/-- OperaHouse$Layer.putNight -/
def zx_m126 : zx_MD := (zx_tb126, ((zx_fd zx_Fc10, zx_fd zx_Sc10, zx_fd zx_Cc10, zx_fd zx_Ic10, zx_has zx_Lc10, zx_fd [], 2, false, (0, 0), false), (zx_fd zx_Kc10, 4)))
/-- OperaHouse$Layer.sourceSinger -/
def zx_m127 : zx_MD := (zx_tb127, ((zx_fd zx_Fc10, zx_fd zx_Sc10, zx_fd zx_Cc10, zx_fd zx_Ic10, zx_has zx_Lc10, zx_fd [(300005, true, 0, 0), (300026, true, 0, 0), (300032, true, 0, 0)], 3, false, (0, 0), false), (zx_fd zx_Kc10, 0)))
/-- OperaHouse$Layer.holds -/
def zx_m128 : zx_MD := (zx_tb128, ((zx_fd zx_Fc10, zx_fd zx_Sc10, zx_fd zx_Cc10, zx_fd zx_Ic10, zx_has zx_Lc10, zx_fd [], 4, false, (0, 0), false), (zx_fd zx_Kc10, 1)))
/-- OperaHouse$Layer.startBehind -/
def zx_m129 : zx_MD := (zx_tb129, ((zx_fd zx_Fc10, zx_fd zx_Sc10, zx_fd zx_Cc10, zx_fd zx_Ic10, zx_has zx_Lc10, zx_fd [], 2, false, (0, 0), false), (zx_fd zx_Kc10, 4)))
/-- OperaHouse$Layer.outcome -/
def zx_m130 : zx_MD := (zx_tb130, ((zx_fd zx_Fc10, zx_fd zx_Sc10, zx_fd zx_Cc10, zx_fd zx_Ic10, zx_has zx_Lc10, zx_fd [], 3, false, (0, 0), false), (zx_fd zx_Kc10, 0)))
/-- OperaHouse.laid -/
def zx_m131 : zx_MD := (zx_tb131, ((zx_fd zx_Fc0, zx_fd zx_Sc0, zx_fd zx_Cc0, zx_fd zx_Ic0, zx_has zx_Lc0, zx_fd [], 2, false, (0, 0), false), (zx_fd zx_Kc0, 0)))
/-- OperaHouse.keep -/
def zx_m132 : zx_MD := (zx_tb132, ((zx_fd zx_Fc0, zx_fd zx_Sc0, zx_fd zx_Cc0, zx_fd zx_Ic0, zx_has zx_Lc0, zx_fd [], 1, false, (0, 0), false), (zx_fd zx_Kc0, 0)))
/-- OperaHouse$Layer.castsToTell -/
def zx_m133 : zx_MD := (zx_tb133, ((zx_fd zx_Fc10, zx_fd zx_Sc10, zx_fd zx_Cc10, zx_fd zx_Ic10, zx_has zx_Lc10, zx_fd [], 4, false, (0, 0), false), (zx_fd zx_Kc10, 0)))
/-- OperaHouse$Layer.tellNights -/
def zx_m134 : zx_MD := (zx_tb134, ((zx_fd zx_Fc10, zx_fd zx_Sc10, zx_fd zx_Cc10, zx_fd zx_Ic10, zx_has zx_Lc10, zx_fd [], 5, false, (0, 0), false), (zx_fd zx_Kc10, 4)))
/-- OperaHouse.count -/
def zx_m135 : zx_MD := (zx_tb135, ((zx_fd zx_Fc0, zx_fd zx_Sc0, zx_fd zx_Cc0, zx_fd zx_Ic0, zx_has zx_Lc0, zx_fd [], 2, false, (0, 0), false), (zx_fd zx_Kc0, 0)))
/-- OperaHouseModel.<init> -/
def zx_m136 : zx_MD := (zx_tb136, ((zx_fd zx_Fic13, zx_fd zx_Sc13, zx_fd zx_Cc13, zx_fd zx_Ic13, zx_has zx_Lc13, zx_fd [(8, true, (-128), 127), (16, true, 0, 6), (24, true, 0, 3), (32, true, 0, 60), (40, true, (-2147483648), 2147483647), (48, true, 0, 8), (56, true, (-2147483648), 2147483647), (64, true, (-2147483648), 2147483647), (72, true, (-2147483648), 2147483647), (80, true, (-2147483648), 2147483647), (88, true, 0, 1), (96, true, (-2147483648), 2147483647), (104, true, (-2147483648), 2147483647), (112, true, (-2147483648), 2147483647), (120, true, (-2147483648), 2147483647), (141, true, (-2147483648), 2147483647), (149, true, 0, 6), (157, true, (-2147483648), 2147483647), (165, true, (-2147483648), 2147483647), (173, true, 0, 8), (182, true, (-2147483648), 2147483647), (191, true, 0, 100), (200, true, 0, 100), (209, true, 0, 23), (218, true, (-2147483648), 2147483647), (227, true, (-2147483648), 2147483647), (235, true, 0, 23), (244, true, 0, 19), (253, true, 0, 71), (262, true, (-2147483648), 2147483647), (271, true, (-2147483648), 2147483647), (279, true, 0, 19), (287, true, (-2147483648), 2147483647), (295, true, (-2147483648), 2147483647), (303, true, (-2147483648), 2147483647), (312, true, 0, 65), (321, true, 0, 7), (330, true, (-1), 19), (339, true, (-2147483648), 2147483647), (347, true, 0, 29), (355, true, 0, 719), (363, true, 0, 720), (371, true, 0, 3), (379, true, 0, 8), (387, true, (-2147483648), 2147483647), (396, true, 0, 1), (405, true, (-1), 19), (414, true, (-1), 19), (423, true, (-1), 19), (431, true, 0, 65), (439, true, 0, 65), (447, true, (-2147483648), 2147483647), (455, true, 0, 1), (464, true, 0, 1), (473, true, 0, 1), (482, true, 0, 1), (490, true, 0, 1), (499, true, 0, 15), (508, true, 0, 65), (517, true, (-1), 7), (526, true, 0, 1), (535, true, (-2147483648), 2147483647), (544, true, (-2147483648), 2147483647), (553, true, (-2147483648), 2147483647), (561, true, 0, 8), (569, true, (-1), 30), (577, true, 0, 29), (585, true, 0, 8)], 1, true, (68, 56070), false), (zx_fd zx_Kc13, 4)))
/-- OperaHouseModel.feed -/
def zx_m137 : zx_MD := (zx_tb137, ((zx_fd zx_Fc13, zx_fd zx_Sc13, zx_fd zx_Cc13, zx_fd zx_Ic13, zx_has zx_Lc13, zx_fd [], 6, false, (0, 0), false), (zx_fd zx_Kc13, 0)))
/-- OperaHouseModel.four -/
def zx_m138 : zx_MD := (zx_tb138, ((zx_fd zx_Fc13, zx_fd zx_Sc13, zx_fd zx_Cc13, zx_fd zx_Ic13, zx_has zx_Lc13, zx_fd [], 3, false, (0, 0), false), (zx_fd zx_Kc13, 4)))
/-- OperaHouseModel.end -/
def zx_m139 : zx_MD := (zx_tb139, ((zx_fd zx_Fc13, zx_fd zx_Sc13, zx_fd zx_Cc13, zx_fd zx_Ic13, zx_has zx_Lc13, zx_fd [], 2, false, (0, 0), false), (zx_fd zx_Kc13, 1)))
/-- OperaHouseModel.next -/
def zx_m140 : zx_MD := (zx_tb140, ((zx_fd zx_Fc13, zx_fd zx_Sc13, zx_fd zx_Cc13, zx_fd zx_Ic13, zx_has zx_Lc13, zx_fd [], 2, false, (0, 0), false), (zx_fd zx_Kc13, 0)))
/-- OperaHouseModel.isIn -/
def zx_m141 : zx_MD := (zx_tb141, ((zx_fd zx_Fc13, zx_fd zx_Sc13, zx_fd zx_Cc13, zx_fd zx_Ic13, zx_has zx_Lc13, zx_fd [], 3, false, (0, 0), false), (zx_fd zx_Kc13, 1)))
/-- OperaHouseModel.opera -/
def zx_m142 : zx_MD := (zx_tb142, ((zx_fd zx_Fc13, zx_fd zx_Sc13, zx_fd zx_Cc13, zx_fd zx_Ic13, zx_has zx_Lc13, zx_fd [], 8, false, (0, 0), false), (zx_fd zx_Kc13, 0)))
/-- OperaHouseModel.taken -/
def zx_m143 : zx_MD := (zx_tb143, ((zx_fd zx_Fc13, zx_fd zx_Sc13, zx_fd zx_Cc13, zx_fd zx_Ic13, zx_has zx_Lc13, zx_fd [], 1, false, (0, 0), false), (zx_fd zx_Kc13, 4)))
/-- OperaHouseModel.singer -/
def zx_m144 : zx_MD := (zx_tb144, ((zx_fd zx_Fc13, zx_fd zx_Sc13, zx_fd zx_Cc13, zx_fd zx_Ic13, zx_has zx_Lc13, zx_fd [], 4, false, (0, 0), false), (zx_fd zx_Kc13, 0)))
/-- OperaHouseModel.plain -/
def zx_m145 : zx_MD := (zx_tb145, ((zx_fd zx_Fc13, zx_fd zx_Sc13, zx_fd zx_Cc13, zx_fd zx_Ic13, zx_has zx_Lc13, zx_fd [], 2, false, (0, 0), false), (zx_fd zx_Kc13, 4)))
/-- OperaHouseModel.players -/
def zx_m146 : zx_MD := (zx_tb146, ((zx_fd zx_Fc13, zx_fd zx_Sc13, zx_fd zx_Cc13, zx_fd zx_Ic13, zx_has zx_Lc13, zx_fd [], 4, false, (0, 0), false), (zx_fd zx_Kc13, 1)))
/-- OperaHouseModel.chorus -/
def zx_m147 : zx_MD := (zx_tb147, ((zx_fd zx_Fc13, zx_fd zx_Sc13, zx_fd zx_Cc13, zx_fd zx_Ic13, zx_has zx_Lc13, zx_fd [], 3, false, (0, 0), false), (zx_fd zx_Kc13, 1)))
/-- OperaHouseModel.contract -/
def zx_m148 : zx_MD := (zx_tb148, ((zx_fd zx_Fc13, zx_fd zx_Sc13, zx_fd zx_Cc13, zx_fd zx_Ic13, zx_has zx_Lc13, zx_fd [(300199, true, 0, 0), (300249, true, 0, 0), (300270, true, 0, 0), (300307, true, 0, 0)], 4, false, (0, 0), false), (zx_fd zx_Kc13, 0)))
/-- OperaHouseModel.isSinger -/
def zx_m149 : zx_MD := (zx_tb149, ((zx_fd zx_Fc13, zx_fd zx_Sc13, zx_fd zx_Cc13, zx_fd zx_Ic13, zx_has zx_Lc13, zx_fd [], 2, false, (0, 0), false), (zx_fd zx_Kc13, 1)))
/-- OperaHouseModel.next -/
def zx_m150 : zx_MD := (zx_tb150, ((zx_fd zx_Fc13, zx_fd zx_Sc13, zx_fd zx_Cc13, zx_fd zx_Ic13, zx_has zx_Lc13, zx_fd [], 4, false, (0, 0), false), (zx_fd zx_Kc13, 4)))
/-- OperaHouseModel.peek -/
def zx_m151 : zx_MD := (zx_tb151, ((zx_fd zx_Fc13, zx_fd zx_Sc13, zx_fd zx_Cc13, zx_fd zx_Ic13, zx_has zx_Lc13, zx_fd [(300019, true, 0, 0)], 1, false, (0, 0), false), (zx_fd zx_Kc13, 0)))
/-- OperaHouseModel.isSmall -/
def zx_m152 : zx_MD := (zx_tb152, ((zx_fd zx_Fc13, zx_fd zx_Sc13, zx_fd zx_Cc13, zx_fd zx_Ic13, zx_has zx_Lc13, zx_fd [], 1, false, (0, 0), false), (zx_fd zx_Kc13, 1)))
/-- OperaHouseModel.isDigit -/
def zx_m153 : zx_MD := (zx_tb153, ((zx_fd zx_Fc13, zx_fd zx_Sc13, zx_fd zx_Cc13, zx_fd zx_Ic13, zx_has zx_Lc13, zx_fd [], 1, false, (0, 0), false), (zx_fd zx_Kc13, 1)))
/-- OperaHouseModel.rule -/
def zx_m154 : zx_MD := (zx_tb154, ((zx_fd zx_Fc13, zx_fd zx_Sc13, zx_fd zx_Cc13, zx_fd zx_Ic13, zx_has zx_Lc13, zx_fd [], 1, false, (0, 0), false), (zx_fd zx_Kc13, 1)))
/-- OperaHouseModel.isWord -/
def zx_m155 : zx_MD := (zx_tb155, ((zx_fd zx_Fc13, zx_fd zx_Sc13, zx_fd zx_Cc13, zx_fd zx_Ic13, zx_has zx_Lc13, zx_fd [], 3, false, (0, 0), false), (zx_fd zx_Kc13, 1)))
/-- OperaHouseModel.once -/
def zx_m156 : zx_MD := (zx_tb156, ((zx_fd zx_Fc13, zx_fd zx_Sc13, zx_fd zx_Cc13, zx_fd zx_Ic13, zx_has zx_Lc13, zx_fd [], 4, false, (0, 0), false), (zx_fd zx_Kc13, 1)))
/-- OperaHouseModel.bad -/
def zx_m157 : zx_MD := (zx_tb157, ((zx_fd zx_Fc13, zx_fd zx_Sc13, zx_fd zx_Cc13, zx_fd zx_Ic13, zx_has zx_Lc13, zx_fd [], 2, false, (0, 0), false), (zx_fd zx_Kc13, 1)))
/-- OperaHouseModel.leave -/
def zx_m158 : zx_MD := (zx_tb158, ((zx_fd zx_Fc13, zx_fd zx_Sc13, zx_fd zx_Cc13, zx_fd zx_Ic13, zx_has zx_Lc13, zx_fd [(300006, true, 0, 0), (300129, true, 0, 0), (300145, true, 0, 0), (300159, true, 0, 0)], 2, false, (0, 0), false), (zx_fd zx_Kc13, 1)))
/-- OperaHouseModel.fee -/
def zx_m159 : zx_MD := (zx_tb159, ((zx_fd zx_Fc13, zx_fd zx_Sc13, zx_fd zx_Cc13, zx_fd zx_Ic13, zx_has zx_Lc13, zx_fd [(300006, true, 0, 0), (300045, true, 0, 0), (300112, true, 0, 0)], 2, false, (0, 0), false), (zx_fd zx_Kc13, 1)))
/-- OperaHouseModel.cond -/
def zx_m160 : zx_MD := (zx_tb160, ((zx_fd zx_Fc13, zx_fd zx_Sc13, zx_fd zx_Cc13, zx_fd zx_Ic13, zx_has zx_Lc13, zx_fd [], 2, false, (0, 0), false), (zx_fd zx_Kc13, 1)))
/-- OperaHouseModel.one -/
def zx_m161 : zx_MD := (zx_tb161, ((zx_fd zx_Fc13, zx_fd zx_Sc13, zx_fd zx_Cc13, zx_fd zx_Ic13, zx_has zx_Lc13, zx_fd [], 4, false, (0, 0), false), (zx_fd zx_Kc13, 1)))
/-- OperaHouseModel.atom -/
def zx_m162 : zx_MD := (zx_tb162, ((zx_fd zx_Fc13, zx_fd zx_Sc13, zx_fd zx_Cc13, zx_fd zx_Ic13, zx_has zx_Lc13, zx_fd [], 1, false, (0, 0), false), (zx_fd zx_Kc13, 0)))
/-- OperaHouseModel.isSign -/
def zx_m163 : zx_MD := (zx_tb163, ((zx_fd zx_Fc13, zx_fd zx_Sc13, zx_fd zx_Cc13, zx_fd zx_Ic13, zx_has zx_Lc13, zx_fd [], 2, false, (0, 0), false), (zx_fd zx_Kc13, 1)))
/-- OperaHouseModel.open -/
def zx_m164 : zx_MD := (zx_tb164, ((zx_fd zx_Fc13, zx_fd zx_Sc13, zx_fd zx_Cc13, zx_fd zx_Ic13, zx_has zx_Lc13, zx_fd [], 3, false, (0, 0), false), (zx_fd zx_Kc13, 0)))
/-- OperaHouseModel.write -/
def zx_m165 : zx_MD := (zx_tb165, ((zx_fd zx_Fc13, zx_fd zx_Sc13, zx_fd zx_Cc13, zx_fd zx_Ic13, zx_has zx_Lc13, zx_fd [], 4, false, (0, 0), false), (zx_fd zx_Kc13, 4)))
/-- OperaHouseModel.writeDown -/
def zx_m166 : zx_MD := (zx_tb166, ((zx_fd zx_Fc13, zx_fd zx_Sc13, zx_fd zx_Cc13, zx_fd zx_Ic13, zx_has zx_Lc13, zx_fd [(300017, true, 0, 0), (300033, true, 0, 0), (300060, true, 0, 0)], 2, false, (0, 0), false), (zx_fd zx_Kc13, 4)))
/-- OperaHouseModel.binds -/
def zx_m167 : zx_MD := (zx_tb167, ((zx_fd zx_Fc13, zx_fd zx_Sc13, zx_fd zx_Cc13, zx_fd zx_Ic13, zx_has zx_Lc13, zx_fd [], 1, false, (0, 0), false), (zx_fd zx_Kc13, 0)))
/-- OperaHouseModel.isOpen -/
def zx_m168 : zx_MD := (zx_tb168, ((zx_fd zx_Fc13, zx_fd zx_Sc13, zx_fd zx_Cc13, zx_fd zx_Ic13, zx_has zx_Lc13, zx_fd [(300015, true, 0, 0)], 2, false, (0, 0), false), (zx_fd zx_Kc13, 1)))
/-- OperaHouseModel.sign -/
def zx_m169 : zx_MD := (zx_tb169, ((zx_fd zx_Fc13, zx_fd zx_Sc13, zx_fd zx_Cc13, zx_fd zx_Ic13, zx_has zx_Lc13, zx_fd [], 2, false, (0, 0), false), (zx_fd zx_Kc13, 1)))
/-- OperaHouseModel.fault -/
def zx_m170 : zx_MD := (zx_tb170, ((zx_fd zx_Fc13, zx_fd zx_Sc13, zx_fd zx_Cc13, zx_fd zx_Ic13, zx_has zx_Lc13, zx_fd [], 1, false, (0, 0), false), (zx_fd zx_Kc13, 0)))
/-- OperaHouseModel.learn -/
def zx_m171 : zx_MD := (zx_tb171, ((zx_fd zx_Fc13, zx_fd zx_Sc13, zx_fd zx_Cc13, zx_fd zx_Ic13, zx_has zx_Lc13, zx_fd [], 5, false, (0, 0), false), (zx_fd zx_Kc13, 1)))
/-- OperaHouseModel.isRole -/
def zx_m172 : zx_MD := (zx_tb172, ((zx_fd zx_Fc13, zx_fd zx_Sc13, zx_fd zx_Cc13, zx_fd zx_Ic13, zx_has zx_Lc13, zx_fd [], 3, false, (0, 0), false), (zx_fd zx_Kc13, 1)))
/-- OperaHouseModel.call -/
def zx_m173 : zx_MD := (zx_tb173, ((zx_fd zx_Fc13, zx_fd zx_Sc13, zx_fd zx_Cc13, zx_fd zx_Ic13, zx_has zx_Lc13, zx_fd [], 6, false, (0, 0), false), (zx_fd zx_Kc13, 0)))
/-- OperaHouseModel.lengthOf -/
def zx_m174 : zx_MD := (zx_tb174, ((zx_fd zx_Fc13, zx_fd zx_Sc13, zx_fd zx_Cc13, zx_fd zx_Ic13, zx_has zx_Lc13, zx_fd [(300022, true, 0, 0)], 3, false, (0, 0), false), (zx_fd zx_Kc13, 0)))
/-- OperaHouseModel.place -/
def zx_m175 : zx_MD := (zx_tb175, ((zx_fd zx_Fc13, zx_fd zx_Sc13, zx_fd zx_Cc13, zx_fd zx_Ic13, zx_has zx_Lc13, zx_fd [(400018, true, 0, 0)], 7, false, (0, 0), false), (zx_fd zx_Kc13, 4)))
/-- OperaHouseModel.cast -/
def zx_m176 : zx_MD := (zx_tb176, ((zx_fd zx_Fc13, zx_fd zx_Sc13, zx_fd zx_Cc13, zx_fd zx_Ic13, zx_has zx_Lc13, zx_fd [], 5, false, (0, 0), false), (zx_fd zx_Kc13, 1)))
/-- OperaHouseModel.isCallRole -/
def zx_m177 : zx_MD := (zx_tb177, ((zx_fd zx_Fc13, zx_fd zx_Sc13, zx_fd zx_Cc13, zx_fd zx_Ic13, zx_has zx_Lc13, zx_fd [], 3, false, (0, 0), false), (zx_fd zx_Kc13, 1)))
/-- OperaHouseModel.tell -/
def zx_m178 : zx_MD := (zx_tb178, ((zx_fd zx_Fc13, zx_fd zx_Sc13, zx_fd zx_Cc13, zx_fd zx_Ic13, zx_has zx_Lc13, zx_fd [], 5, false, (0, 0), false), (zx_fd zx_Kc13, 4)))
/-- OperaHouseModel.ill -/
def zx_m179 : zx_MD := (zx_tb179, ((zx_fd zx_Fc13, zx_fd zx_Sc13, zx_fd zx_Cc13, zx_fd zx_Ic13, zx_has zx_Lc13, zx_fd [], 4, false, (0, 0), false), (zx_fd zx_Kc13, 1)))
/-- OperaHouseModel.who -/
def zx_m180 : zx_MD := (zx_tb180, ((zx_fd zx_Fc13, zx_fd zx_Sc13, zx_fd zx_Cc13, zx_fd zx_Ic13, zx_has zx_Lc13, zx_fd [], 5, false, (0, 0), false), (zx_fd zx_Kc13, 0)))
/-- OperaHouseModel.load -/
def zx_m181 : zx_MD := (zx_tb181, ((zx_fd zx_Fc13, zx_fd zx_Sc13, zx_fd zx_Cc13, zx_fd zx_Ic13, zx_has zx_Lc13, zx_fd [], 4, false, (0, 0), false), (zx_fd zx_Kc13, 4)))
/-- OperaHouseModel.sort -/
def zx_m182 : zx_MD := (zx_tb182, ((zx_fd zx_Fc13, zx_fd zx_Sc13, zx_fd zx_Cc13, zx_fd zx_Ic13, zx_has zx_Lc13, zx_fd [], 3, false, (0, 0), false), (zx_fd zx_Kc13, 4)))
/-- OperaHouseModel.enroll -/
def zx_m183 : zx_MD := (zx_tb183, ((zx_fd zx_Fc13, zx_fd zx_Sc13, zx_fd zx_Cc13, zx_fd zx_Ic13, zx_has zx_Lc13, zx_fd [], 3, false, (0, 0), false), (zx_fd zx_Kc13, 4)))
/-- OperaHouseModel.learned -/
def zx_m184 : zx_MD := (zx_tb184, ((zx_fd zx_Fc13, zx_fd zx_Sc13, zx_fd zx_Cc13, zx_fd zx_Ic13, zx_has zx_Lc13, zx_fd [], 5, false, (0, 0), false), (zx_fd zx_Kc13, 0)))
/-- OperaHouseModel.learnedOf -/
def zx_m185 : zx_MD := (zx_tb185, ((zx_fd zx_Fc13, zx_fd zx_Sc13, zx_fd zx_Cc13, zx_fd zx_Ic13, zx_has zx_Lc13, zx_fd [], 7, false, (0, 0), false), (zx_fd zx_Kc13, 0)))
/-- OperaHouseModel.longOf -/
def zx_m186 : zx_MD := (zx_tb186, ((zx_fd zx_Fc13, zx_fd zx_Sc13, zx_fd zx_Cc13, zx_fd zx_Ic13, zx_has zx_Lc13, zx_fd [], 2, false, (0, 0), false), (zx_fd zx_Kc13, 0)))
/-- OperaHouseModel.tired -/
def zx_m187 : zx_MD := (zx_tb187, ((zx_fd zx_Fc13, zx_fd zx_Sc13, zx_fd zx_Cc13, zx_fd zx_Ic13, zx_has zx_Lc13, zx_fd [], 4, false, (0, 0), false), (zx_fd zx_Kc13, 0)))
/-- OperaHouseModel.tiredOf -/
def zx_m188 : zx_MD := (zx_tb188, ((zx_fd zx_Fc13, zx_fd zx_Sc13, zx_fd zx_Cc13, zx_fd zx_Ic13, zx_has zx_Lc13, zx_fd [], 9, false, (0, 0), false), (zx_fd zx_Kc13, 0)))
/-- OperaHouseModel.isIn -/
def zx_m189 : zx_MD := (zx_tb189, ((zx_fd zx_Fc13, zx_fd zx_Sc13, zx_fd zx_Cc13, zx_fd zx_Ic13, zx_has zx_Lc13, zx_fd [], 3, false, (0, 0), false), (zx_fd zx_Kc13, 1)))
/-- OperaHouseModel.fee -/
def zx_m190 : zx_MD := (zx_tb190, ((zx_fd zx_Fc13, zx_fd zx_Sc13, zx_fd zx_Cc13, zx_fd zx_Ic13, zx_has zx_Lc13, zx_fd [(300006, true, 0, 0), (300045, true, 0, 0), (300112, true, 0, 0)], 4, false, (0, 0), false), (zx_fd zx_Kc13, 0)))
/-- OperaHouseModel.feeOf -/
def zx_m191 : zx_MD := (zx_tb191, ((zx_fd zx_Fc13, zx_fd zx_Sc13, zx_fd zx_Cc13, zx_fd zx_Ic13, zx_has zx_Lc13, zx_fd [(300056, true, 0, 0), (300072, true, 0, 0), (300079, true, 0, 0)], 6, false, (0, 0), false), (zx_fd zx_Kc13, 0)))
/-- OperaHouseModel.isCover -/
def zx_m192 : zx_MD := (zx_tb192, ((zx_fd zx_Fc13, zx_fd zx_Sc13, zx_fd zx_Cc13, zx_fd zx_Ic13, zx_has zx_Lc13, zx_fd [], 4, false, (0, 0), false), (zx_fd zx_Kc13, 1)))
/-- OperaHouseModel.isIll -/
def zx_m193 : zx_MD := (zx_tb193, ((zx_fd zx_Fc13, zx_fd zx_Sc13, zx_fd zx_Cc13, zx_fd zx_Ic13, zx_has zx_Lc13, zx_fd [], 4, false, (0, 0), false), (zx_fd zx_Kc13, 1)))
/-- OperaHouseModel.isSo -/
def zx_m194 : zx_MD := (zx_tb194, ((zx_fd zx_Fc13, zx_fd zx_Sc13, zx_fd zx_Cc13, zx_fd zx_Ic13, zx_has zx_Lc13, zx_fd [], 10, false, (0, 0), false), (zx_fd zx_Kc13, 1)))
/-- OperaHouseModel.asks -/
def zx_m195 : zx_MD := (zx_tb195, ((zx_fd zx_Fc13, zx_fd zx_Sc13, zx_fd zx_Cc13, zx_fd zx_Ic13, zx_has zx_Lc13, zx_fd [], 5, false, (0, 0), false), (zx_fd zx_Kc13, 1)))
/-- OperaHouseModel.cameInstead -/
def zx_m196 : zx_MD := (zx_tb196, ((zx_fd zx_Fc13, zx_fd zx_Sc13, zx_fd zx_Cc13, zx_fd zx_Ic13, zx_has zx_Lc13, zx_fd [], 5, false, (0, 0), false), (zx_fd zx_Kc13, 1)))
/-- OperaHouseModel.numberOf -/
def zx_m197 : zx_MD := (zx_tb197, ((zx_fd zx_Fc13, zx_fd zx_Sc13, zx_fd zx_Cc13, zx_fd zx_Ic13, zx_has zx_Lc13, zx_fd [], 6, false, (0, 0), false), (zx_fd zx_Kc13, 0)))
/-- OperaHouseModel.nights -/
def zx_m198 : zx_MD := (zx_tb198, ((zx_fd zx_Fc13, zx_fd zx_Sc13, zx_fd zx_Cc13, zx_fd zx_Ic13, zx_has zx_Lc13, zx_fd [], 6, false, (0, 0), false), (zx_fd zx_Kc13, 0)))
/-- OperaHouseModel.dayHours -/
def zx_m199 : zx_MD := (zx_tb199, ((zx_fd zx_Fc13, zx_fd zx_Sc13, zx_fd zx_Cc13, zx_fd zx_Ic13, zx_has zx_Lc13, zx_fd [], 5, false, (0, 0), false), (zx_fd zx_Kc13, 0)))
/-- OperaHouseModel.pay -/
def zx_m200 : zx_MD := (zx_tb200, ((zx_fd zx_Fc13, zx_fd zx_Sc13, zx_fd zx_Cc13, zx_fd zx_Ic13, zx_has zx_Lc13, zx_fd [], 6, false, (0, 0), false), (zx_fd zx_Kc13, 0)))
/-- OperaHouseModel.moves -/
def zx_m201 : zx_MD := (zx_tb201, ((zx_fd zx_Fc13, zx_fd zx_Sc13, zx_fd zx_Cc13, zx_fd zx_Ic13, zx_has zx_Lc13, zx_fd [], 4, false, (0, 0), false), (zx_fd zx_Kc13, 0)))
/-- OperaHouseModel.atFirst -/
def zx_m202 : zx_MD := (zx_tb202, ((zx_fd zx_Fc13, zx_fd zx_Sc13, zx_fd zx_Cc13, zx_fd zx_Ic13, zx_has zx_Lc13, zx_fd [], 2, false, (0, 0), false), (zx_fd zx_Kc13, 4)))
/-- OperaHouseModel.canStand -/
def zx_m203 : zx_MD := (zx_tb203, ((zx_fd zx_Fc13, zx_fd zx_Sc13, zx_fd zx_Cc13, zx_fd zx_Ic13, zx_has zx_Lc13, zx_fd [], 3, false, (0, 0), false), (zx_fd zx_Kc13, 1)))
/-- OperaHouseModel.placeOf -/
def zx_m204 : zx_MD := (zx_tb204, ((zx_fd zx_Fc13, zx_fd zx_Sc13, zx_fd zx_Cc13, zx_fd zx_Ic13, zx_has zx_Lc13, zx_fd [], 2, false, (0, 0), false), (zx_fd zx_Kc13, 0)))
/-- OperaHouseModel.goOn -/
def zx_m205 : zx_MD := (zx_tb205, ((zx_fd zx_Fc13, zx_fd zx_Sc13, zx_fd zx_Cc13, zx_fd zx_Ic13, zx_has zx_Lc13, zx_fd [], 5, false, (0, 0), false), (zx_fd zx_Kc13, 1)))
/-- OperaHouseModel.areNext -/
def zx_m206 : zx_MD := (zx_tb206, ((zx_fd zx_Fc13, zx_fd zx_Sc13, zx_fd zx_Cc13, zx_fd zx_Ic13, zx_has zx_Lc13, zx_fd [], 4, false, (0, 0), false), (zx_fd zx_Kc13, 1)))
/-- OperaHouseModel.moved -/
def zx_m207 : zx_MD := (zx_tb207, ((zx_fd zx_Fc13, zx_fd zx_Sc13, zx_fd zx_Cc13, zx_fd zx_Ic13, zx_has zx_Lc13, zx_fd [], 3, false, (0, 0), false), (zx_fd zx_Kc13, 0)))
/-- OperaHouseModel.wrong -/
def zx_m208 : zx_MD := (zx_tb208, ((zx_fd zx_Fc13, zx_fd zx_Sc13, zx_fd zx_Cc13, zx_fd zx_Ic13, zx_has zx_Lc13, zx_fd [], 3, false, (0, 0), false), (zx_fd zx_Kc13, 0)))
/-- OperaHouseModel.judge -/
def zx_m209 : zx_MD := (zx_tb209, ((zx_fd zx_Fc13, zx_fd zx_Sc13, zx_fd zx_Cc13, zx_fd zx_Ic13, zx_has zx_Lc13, zx_fd [], 6, false, (0, 0), false), (zx_fd zx_Kc13, 4)))
/-- OperaHouseModel.roll -/
def zx_m210 : zx_MD := (zx_tb210, ((zx_fd zx_Fc13, zx_fd zx_Sc13, zx_fd zx_Cc13, zx_fd zx_Ic13, zx_has zx_Lc13, zx_fd [], 7, false, (0, 0), false), (zx_fd zx_Kc13, 4)))
/-- OperaHouseModel.isCallWrong -/
def zx_m211 : zx_MD := (zx_tb211, ((zx_fd zx_Fc13, zx_fd zx_Sc13, zx_fd zx_Cc13, zx_fd zx_Ic13, zx_has zx_Lc13, zx_fd [], 3, false, (0, 0), false), (zx_fd zx_Kc13, 1)))
/-- OperaHouseModel.isFullStage -/
def zx_m212 : zx_MD := (zx_tb212, ((zx_fd zx_Fc13, zx_fd zx_Sc13, zx_fd zx_Cc13, zx_fd zx_Ic13, zx_has zx_Lc13, zx_fd [], 5, false, (0, 0), false), (zx_fd zx_Kc13, 1)))
/-- OperaHouseModel.isOn -/
def zx_m213 : zx_MD := (zx_tb213, ((zx_fd zx_Fc13, zx_fd zx_Sc13, zx_fd zx_Cc13, zx_fd zx_Ic13, zx_has zx_Lc13, zx_fd [], 3, false, (0, 0), false), (zx_fd zx_Kc13, 1)))
/-- OperaHouseModel.isUnready -/
def zx_m214 : zx_MD := (zx_tb214, ((zx_fd zx_Fc13, zx_fd zx_Sc13, zx_fd zx_Cc13, zx_fd zx_Ic13, zx_has zx_Lc13, zx_fd [], 2, false, (0, 0), false), (zx_fd zx_Kc13, 1)))
/-- OperaHouseModel.firstEnd -/
def zx_m215 : zx_MD := (zx_tb215, ((zx_fd zx_Fc13, zx_fd zx_Sc13, zx_fd zx_Cc13, zx_fd zx_Ic13, zx_has zx_Lc13, zx_fd [], 6, false, (0, 0), false), (zx_fd zx_Kc13, 0)))
/-- OperaHouseModel.lacksPlayers -/
def zx_m216 : zx_MD := (zx_tb216, ((zx_fd zx_Fc13, zx_fd zx_Sc13, zx_fd zx_Cc13, zx_fd zx_Ic13, zx_has zx_Lc13, zx_fd [], 4, false, (0, 0), false), (zx_fd zx_Kc13, 1)))
/-- OperaHouseModel.playsTwice -/
def zx_m217 : zx_MD := (zx_tb217, ((zx_fd zx_Fc13, zx_fd zx_Sc13, zx_fd zx_Cc13, zx_fd zx_Ic13, zx_has zx_Lc13, zx_fd [], 3, false, (0, 0), false), (zx_fd zx_Kc13, 1)))
/-- OperaHouseModel.tiresChorus -/
def zx_m218 : zx_MD := (zx_tb218, ((zx_fd zx_Fc13, zx_fd zx_Sc13, zx_fd zx_Cc13, zx_fd zx_Ic13, zx_has zx_Lc13, zx_fd [], 6, false, (0, 0), false), (zx_fd zx_Kc13, 1)))
/-- OperaHouseModel.note -/
def zx_m219 : zx_MD := (zx_tb219, ((zx_fd zx_Fc13, zx_fd zx_Sc13, zx_fd zx_Cc13, zx_fd zx_Ic13, zx_has zx_Lc13, zx_fd [], 4, false, (0, 0), false), (zx_fd zx_Kc13, 4)))
/-- OperaHouseModel.isWrong -/
def zx_m220 : zx_MD := (zx_tb220, ((zx_fd zx_Fc13, zx_fd zx_Sc13, zx_fd zx_Cc13, zx_fd zx_Ic13, zx_has zx_Lc13, zx_fd [], 5, false, (0, 0), false), (zx_fd zx_Kc13, 1)))
/-- OperaHouseModel.suits -/
def zx_m221 : zx_MD := (zx_tb221, ((zx_fd zx_Fc13, zx_fd zx_Sc13, zx_fd zx_Cc13, zx_fd zx_Ic13, zx_has zx_Lc13, zx_fd [], 5, false, (0, 0), false), (zx_fd zx_Kc13, 1)))
/-- OperaHouseModel.apart -/
def zx_m222 : zx_MD := (zx_tb222, ((zx_fd zx_Fc13, zx_fd zx_Sc13, zx_fd zx_Cc13, zx_fd zx_Ic13, zx_has zx_Lc13, zx_fd [], 2, false, (0, 0), false), (zx_fd zx_Kc13, 0)))
/-- OperaHouseModel.isAway -/
def zx_m223 : zx_MD := (zx_tb223, ((zx_fd zx_Fc13, zx_fd zx_Sc13, zx_fd zx_Cc13, zx_fd zx_Ic13, zx_has zx_Lc13, zx_fd [], 4, false, (0, 0), false), (zx_fd zx_Kc13, 1)))
/-- OperaHouseModel.isBusy -/
def zx_m224 : zx_MD := (zx_tb224, ((zx_fd zx_Fc13, zx_fd zx_Sc13, zx_fd zx_Cc13, zx_fd zx_Ic13, zx_has zx_Lc13, zx_fd [], 5, false, (0, 0), false), (zx_fd zx_Kc13, 1)))
/-- OperaHouseModel.lacksRest -/
def zx_m225 : zx_MD := (zx_tb225, ((zx_fd zx_Fc13, zx_fd zx_Sc13, zx_fd zx_Cc13, zx_fd zx_Ic13, zx_has zx_Lc13, zx_fd [], 5, false, (0, 0), false), (zx_fd zx_Kc13, 1)))
/-- OperaHouseModel.told -/
def zx_m226 : zx_MD := (zx_tb226, ((zx_fd zx_Fc13, zx_fd zx_Sc13, zx_fd zx_Cc13, zx_fd zx_Ic13, zx_has zx_Lc13, zx_fd [], 3, false, (0, 0), false), (zx_fd zx_Kc13, 0)))
/-- OperaHouseModel.throwsIf -/
def zx_m227 : zx_MD := (zx_tb227, ((zx_fd zx_Fc13, zx_fd zx_Sc13, zx_fd zx_Cc13, zx_fd zx_Ic13, zx_has zx_Lc13, zx_fd [], 2, false, (0, 0), false), (zx_fd zx_Kc13, 1)))
/-- OperaHouseModel.may -/
def zx_m228 : zx_MD := (zx_tb228, ((zx_fd zx_Fc13, zx_fd zx_Sc13, zx_fd zx_Cc13, zx_fd zx_Ic13, zx_has zx_Lc13, zx_fd [], 4, false, (0, 0), false), (zx_fd zx_Kc13, 1)))
/-- OperaHouseModel.mayHave -/
def zx_m229 : zx_MD := (zx_tb229, ((zx_fd zx_Fc13, zx_fd zx_Sc13, zx_fd zx_Cc13, zx_fd zx_Ic13, zx_has zx_Lc13, zx_fd [], 4, false, (0, 0), false), (zx_fd zx_Kc13, 1)))
/-- OperaHouseModel.unmark -/
def zx_m230 : zx_MD := (zx_tb230, ((zx_fd zx_Fc13, zx_fd zx_Sc13, zx_fd zx_Cc13, zx_fd zx_Ic13, zx_has zx_Lc13, zx_fd [], 2, false, (0, 0), false), (zx_fd zx_Kc13, 4)))
/-- OperaHouseModel.marks -/
def zx_m231 : zx_MD := (zx_tb231, ((zx_fd zx_Fc13, zx_fd zx_Sc13, zx_fd zx_Cc13, zx_fd zx_Ic13, zx_has zx_Lc13, zx_fd [], 7, false, (0, 0), false), (zx_fd zx_Kc13, 1)))
/-- OperaHouseModel.markOf -/
def zx_m232 : zx_MD := (zx_tb232, ((zx_fd zx_Fc13, zx_fd zx_Sc13, zx_fd zx_Cc13, zx_fd zx_Ic13, zx_has zx_Lc13, zx_fd [], 3, false, (0, 0), false), (zx_fd zx_Kc13, 0)))
/-- OperaHouseModel.put -/
def zx_m233 : zx_MD := (zx_tb233, ((zx_fd zx_Fc13, zx_fd zx_Sc13, zx_fd zx_Cc13, zx_fd zx_Ic13, zx_has zx_Lc13, zx_fd [], 4, false, (0, 0), false), (zx_fd zx_Kc13, 4)))
/-- OperaHouseModel.harm -/
def zx_m234 : zx_MD := (zx_tb234, ((zx_fd zx_Fc13, zx_fd zx_Sc13, zx_fd zx_Cc13, zx_fd zx_Ic13, zx_has zx_Lc13, zx_fd [], 4, false, (0, 0), false), (zx_fd zx_Kc13, 0)))
/-- OperaHouseModel.harmOf -/
def zx_m235 : zx_MD := (zx_tb235, ((zx_fd zx_Fc13, zx_fd zx_Sc13, zx_fd zx_Cc13, zx_fd zx_Ic13, zx_has zx_Lc13, zx_fd [], 6, false, (0, 0), false), (zx_fd zx_Kc13, 0)))
/-- OperaHouseModel.instead -/
def zx_m236 : zx_MD := (zx_tb236, ((zx_fd zx_Fc13, zx_fd zx_Sc13, zx_fd zx_Cc13, zx_fd zx_Ic13, zx_has zx_Lc13, zx_fd [], 7, false, (0, 0), false), (zx_fd zx_Kc13, 0)))
/-- OperaHouseModel.lay -/
def zx_m237 : zx_MD := (zx_tb237, ((zx_fd zx_Fc13, zx_fd zx_Sc13, zx_fd zx_Cc13, zx_fd zx_Ic13, zx_has zx_Lc13, zx_fd [(300104, true, 0, 0), (300129, true, 0, 0), (300130, true, 0, 0), (300189, true, 0, 0), (300288, true, 0, 0), (300298, true, 0, 0), (300332, true, 0, 0), (300407, true, 0, 0), (300421, true, 0, 0), (300446, true, 0, 0), (400190, true, 0, 0), (400275, true, 0, 0), (400291, true, 0, 0), (400408, true, 0, 0), (400422, true, 0, 0), (400447, true, 0, 0)], 8, false, (0, 0), false), (zx_fd zx_Kc13, 0)))
/-- OperaHouseModel.putNight -/
def zx_m238 : zx_MD := (zx_tb238, ((zx_fd zx_Fc13, zx_fd zx_Sc13, zx_fd zx_Cc13, zx_fd zx_Ic13, zx_has zx_Lc13, zx_fd [], 7, false, (0, 0), false), (zx_fd zx_Kc13, 4)))
/-- OperaHouseModel.goes -/
def zx_m239 : zx_MD := (zx_tb239, ((zx_fd zx_Fc13, zx_fd zx_Sc13, zx_fd zx_Cc13, zx_fd zx_Ic13, zx_has zx_Lc13, zx_fd [], 3, false, (0, 0), false), (zx_fd zx_Kc13, 1)))
/-- OperaHouseModel.laid -/
def zx_m240 : zx_MD := (zx_tb240, ((zx_fd zx_Fc13, zx_fd zx_Sc13, zx_fd zx_Cc13, zx_fd zx_Ic13, zx_has zx_Lc13, zx_fd [], 2, false, (0, 0), false), (zx_fd zx_Kc13, 0)))
/-- OperaHouseModel.keep -/
def zx_m241 : zx_MD := (zx_tb241, ((zx_fd zx_Fc13, zx_fd zx_Sc13, zx_fd zx_Cc13, zx_fd zx_Ic13, zx_has zx_Lc13, zx_fd [(300055, true, 0, 0), (300096, true, 0, 0), (300171, true, 0, 0), (300189, true, 0, 0), (400056, true, 0, 0)], 5, false, (0, 0), false), (zx_fd zx_Kc13, 0)))
/-- OperaHouseModel.count -/
def zx_m242 : zx_MD := (zx_tb242, ((zx_fd zx_Fc13, zx_fd zx_Sc13, zx_fd zx_Cc13, zx_fd zx_Ic13, zx_has zx_Lc13, zx_fd [], 2, false, (0, 0), false), (zx_fd zx_Kc13, 0)))
/-- OperaHouseLaw.law -/
def zx_mlaw : zx_MD := (zx_tblaw, ((zx_fd zx_Fc14, zx_fd zx_Sc14, zx_fd zx_Cc14, zx_fd zx_Ic14, zx_has zx_Lc14, zx_fd [], 9, false, (601024, 7293034), true), (zx_fd zx_Kc14, 1)))
def zx_Pt : List (Option zx_MD) := [some zx_m0, some zx_m1, some zx_m2, some zx_m3, some zx_m4, some zx_m5, some zx_m6, some zx_m7, some zx_m8, some zx_m9, some zx_m10, some zx_m11, some zx_m12, some zx_m13, some zx_m14, some zx_m15, some zx_m16, some zx_m17, some zx_m18, some zx_m19, some zx_m20, some zx_m21, some zx_m22, some zx_m23, some zx_m24, some zx_m25, some zx_m26, some zx_m27, some zx_m28, some zx_m29, some zx_m30, some zx_m31, some zx_m32, some zx_m33, some zx_m34, some zx_m35, some zx_m36, some zx_m37, some zx_m38, some zx_m39, some zx_m40, some zx_m41, some zx_m42, some zx_m43, some zx_m44, some zx_m45, some zx_m46, some zx_m47, some zx_m48, some zx_m49, some zx_m50, some zx_m51, some zx_m52, some zx_m53, some zx_m54, some zx_m55, some zx_m56, some zx_m57, some zx_m58, some zx_m59, some zx_m60, some zx_m61, some zx_m62, some zx_m63, some zx_m64, some zx_m65, some zx_m66, some zx_m67, some zx_m68, some zx_m69, some zx_m70, some zx_m71, some zx_m72, some zx_m73, some zx_m74, some zx_m75, some zx_m76, some zx_m77, some zx_m78, some zx_m79, some zx_m80, some zx_m81, some zx_m82, some zx_m83, some zx_m84, some zx_m85, some zx_m86, some zx_m87, some zx_m88, some zx_m89, some zx_m90, some zx_m91, some zx_m92, some zx_m93, some zx_m94, some zx_m95, some zx_m96, some zx_m97, some zx_m98, some zx_m99, some zx_m100, some zx_m101, some zx_m102, some zx_m103, some zx_m104, some zx_m105, some zx_m106, some zx_m107, some zx_m108, some zx_m109, some zx_m110, some zx_m111, some zx_m112, some zx_m113, some zx_m114, some zx_m115, some zx_m116, some zx_m117, some zx_m118, some zx_m119, some zx_m120, some zx_m121, some zx_m122, some zx_m123, some zx_m124, some zx_m125, some zx_m126, some zx_m127, some zx_m128, some zx_m129, some zx_m130, some zx_m131, some zx_m132, some zx_m133, some zx_m134, some zx_m135, some zx_m136, some zx_m137, some zx_m138, some zx_m139, some zx_m140, some zx_m141, some zx_m142, some zx_m143, some zx_m144, some zx_m145, some zx_m146, some zx_m147, some zx_m148, some zx_m149, some zx_m150, some zx_m151, some zx_m152, some zx_m153, some zx_m154, some zx_m155, some zx_m156, some zx_m157, some zx_m158, some zx_m159, some zx_m160, some zx_m161, some zx_m162, some zx_m163, some zx_m164, some zx_m165, some zx_m166, some zx_m167, some zx_m168, some zx_m169, some zx_m170, some zx_m171, some zx_m172, some zx_m173, some zx_m174, some zx_m175, some zx_m176, some zx_m177, some zx_m178, some zx_m179, some zx_m180, some zx_m181, some zx_m182, some zx_m183, some zx_m184, some zx_m185, some zx_m186, some zx_m187, some zx_m188, some zx_m189, some zx_m190, some zx_m191, some zx_m192, some zx_m193, some zx_m194, some zx_m195, some zx_m196, some zx_m197, some zx_m198, some zx_m199, some zx_m200, some zx_m201, some zx_m202, some zx_m203, some zx_m204, some zx_m205, some zx_m206, some zx_m207, some zx_m208, some zx_m209, some zx_m210, some zx_m211, some zx_m212, some zx_m213, some zx_m214, some zx_m215, some zx_m216, some zx_m217, some zx_m218, some zx_m219, some zx_m220, some zx_m221, some zx_m222, some zx_m223, some zx_m224, some zx_m225, some zx_m226, some zx_m227, some zx_m228, some zx_m229, some zx_m230, some zx_m231, some zx_m232, some zx_m233, some zx_m234, some zx_m235, some zx_m236, some zx_m237, some zx_m238, some zx_m239, some zx_m240, some zx_m241, some zx_m242, none]
end
