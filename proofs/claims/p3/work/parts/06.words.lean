noncomputable def am_wq (i : Nat) (w : Cond) : Bool := decide (lw_tbl[i]? = some w) && goodWord w
theorem am_wq_ok {i : Nat} {w : Cond} (h : am_wq i w = true) : w ∈ am_big := by
  unfold am_wq at h
  rw [Bool.and_eq_true, decide_eq_true_eq] at h
  exact am_big_at i h.1 h.2
noncomputable def am_fw (o i f : Nat) : Cond := .fieldLink (am_ownS o) i ((am_clq (f / 100)).2.1 (f % 100)).1 ((am_clq (f / 100)).2.1 (f % 100)).2.1 ((am_clq (f / 100)).2.1 (f % 100)).2.2.1
theorem am_wq_mk {i : Nat} {w : Cond} (h : lw_tbl[i]? = some w) (g : goodWord w = true) : am_wq i w = true := by
  unfold am_wq
  rw [decide_eq_true h, g]
  rfl
/-- one walk along a table: what stands at rising places -/
noncomputable def am_pk : Nat → List Nat → List Cond → List (Option Cond)
  | _, [], _ => []
  | n, i :: r, l => (l.drop (i - n)).head? :: am_pk i r (l.drop (i - n))
noncomputable def am_srt : Nat → List Nat → Bool
  | _, [] => true
  | n, i :: r => Nat.ble n i && am_srt i r
theorem am_pkok {T : List Cond} : ∀ (ix : List Nat) (n : Nat), am_srt n ix = true → am_pk n ix (T.drop n) = ix.map fun i => T[i]?
  | [], _, _ => rfl
  | i :: r, n, h => by
    obtain ⟨h1, h2⟩ := am_and h
    have hle := Nat.le_of_ble_eq_true h1
    have e : (T.drop n).drop (i - n) = T.drop i := by
      rw [List.drop_drop, Nat.add_sub_cancel' hle]
    unfold am_pk
    rw [e, am_pkok r i h2, List.head?_drop, List.map_cons]
theorem am_allx {α : Type} {l : List α} (i : α → Nat) (f : α → Cond) (hs : am_srt 0 (l.map i) = true) (h : am_pk 0 (l.map i) lw_tbl = l.map fun q => some (f q)) : ∀ q ∈ l, lw_tbl[i q]? = some (f q) := by
  have := (am_pkok (T := lw_tbl) (l.map i) 0 hs).symm.trans h
  rw [List.map_map] at this
  exact List.map_inj_left.mp this
set_option maxRecDepth 100000 in
theorem am_lf_r : am_pk 0 (am_lf.map fun q => q.2.2.2) lw_tbl = am_lf.map fun q => some (am_fw q.1 q.2.1 q.2.2.1) := rfl
theorem am_lf_c : (am_lf.all fun q => am_wq q.2.2.2 (am_fw q.1 q.2.1 q.2.2.1)) = true :=
  List.all_eq_true.mpr fun q hq => am_wq_mk (am_allx (fun q => q.2.2.2) (fun q => am_fw q.1 q.2.1 q.2.2.1) (by decide +kernel) am_lf_r q hq) rfl
/-- a nest mate's method: its word isn't among the good ones, it goes its own way -/
noncomputable def am_nw (q : Nat × Nat × Nat × Nat × Nat) : Cond := .methodLinkNest (am_ownS q.1) q.2.1 (am_infq q.2.2.1).1 "MoonReapers"
noncomputable def am_lw (q : Nat × Nat × Nat × Nat × Nat) : Cond := bif Nat.ble 3 q.2.2.2.1 then am_nw q else .methodLink (am_ownS q.1) q.2.1 (am_infq q.2.2.1).1
set_option maxRecDepth 100000 in
theorem am_lm_r : am_pk 0 (am_lm.map fun q => q.2.2.2.2) lw_tbl = am_lm.map fun q => some (am_lw q) := rfl
theorem am_lm_x : ∀ q ∈ am_lm, lw_tbl[q.2.2.2.2]? = some (am_lw q) := am_allx (fun q => q.2.2.2.2) am_lw (by decide +kernel) am_lm_r
theorem am_lm_c : (am_lm.all fun q => decide (3 ≤ q.2.2.2.1) || am_wq q.2.2.2.2 (.methodLink (am_ownS q.1) q.2.1 (am_infq q.2.2.1).1)) = true :=
  List.all_eq_true.mpr fun q hq => by
    have h := am_lm_x q hq
    by_cases h3 : 3 ≤ q.2.2.2.1
    · rw [decide_eq_true h3]
      rfl
    · have e : Nat.ble 3 q.2.2.2.1 = false := by
        cases e : Nat.ble 3 q.2.2.2.1 with
        | false => rfl
        | true => exact absurd (Nat.le_of_ble_eq_true e) h3
      unfold am_lw at h
      rw [e] at h
      rw [am_wq_mk (w := .methodLink (am_ownS q.1) q.2.1 (am_infq q.2.2.1).1) h rfl, Bool.or_true]
theorem am_lx_c : (am_lm.all fun q => decide (q.2.2.2.1 < 3) || decide (lw_tbl[q.2.2.2.2]? = some (am_nw q))) = true :=
  List.all_eq_true.mpr fun q hq => by
    have h := am_lm_x q hq
    by_cases h3 : q.2.2.2.1 < 3
    · rw [decide_eq_true h3]
      rfl
    · unfold am_lw at h
      rw [Nat.ble_eq_true_of_le (show 3 ≤ q.2.2.2.1 by omega)] at h
      rw [decide_eq_true (show lw_tbl[q.2.2.2.2]? = some (am_nw q) from h), Bool.or_true]
theorem am_ln_c : (am_ln.all fun q => am_wq q.2.2.2 (.classLink (am_ownS q.1) q.2.1 (am_clq q.2.2.1).1)) = true := by decide +kernel
theorem am_lc_c : (am_lc.all fun q => am_wq q.2.2.2 (.constant (am_ownS q.1) q.2.1 (Int32.ofInt q.2.2.1))) = true := by decide +kernel
theorem am_ll_c : (am_ll.all fun q => am_wq q.2.2.2 (.constantLong (am_ownS q.1) q.2.1 (Int64.ofInt q.2.2.1))) = true := by decide +kernel
theorem am_lo_c : (am_lo.all fun q => am_wq q.2.2 (.methodLink (am_ownS q.1) q.2.1 Lib.objectInit)) = true := by decide +kernel
theorem am_la_c : (am_la.all fun q => am_wq q.2.2 (.methodLink (am_ownS q.1) q.2.1 arraycopyName)) = true := by decide +kernel
noncomputable def ck_yS : MethodName := ⟨"java/lang/String", "checkIndex", "(II)V"⟩
theorem am_lck_c : (am_lck.all fun q => am_wq q.2.2 (.methodLink (am_ownS q.1) q.2.1 ck_yS)) = true := by decide +kernel
theorem am_lan_c : (am_lan.all fun q => am_wq q.2.2 (.classLink (am_ownS q.1) q.2.1 "MoonReapers$State")) = true := by decide +kernel
theorem am_lma_c : (am_lma.all fun q => am_wq q.2.2 (.classLink (am_ownS q.1) q.2.1 ("[" ++ (FieldType.array .int).toString))) = true := by decide +kernel
/-- the method's own words: its code, its class's initialisation, static or of an object, its selection; each list in the order of the table -/
noncomputable def am_i1 : List (Nat × Nat) := [(105, 91), (10, 99), (27, 105), (53, 228), (55, 236), (59, 256), (63, 288), (88, 320), (94, 337), (4, 342), (106, 387), (107, 390), (11, 394), (108, 398), (109, 402), (12, 406), (28, 410), (13, 415), (14, 419), (15, 422), (16, 425), (17, 429), (18, 433), (19, 437), (20, 441), (21, 444), (22, 453), (6, 457), (7, 461), (8, 467), (9, 471), (5, 474), (23, 505), (24, 511), (29, 519), (30, 523), (25, 527), (31, 531), (32, 535), (110, 538), (26, 542), (33, 546), (34, 550), (111, 557), (112, 561), (35, 565), (113, 569), (36, 575), (114, 580), (37, 584), (38, 588), (115, 592), (116, 596), (117, 601), (0, 604), (118, 608), (119, 612), (120, 616), (121, 622), (122, 626), (123, 630), (124, 634), (39, 638), (40, 642), (41, 647), (42, 651), (43, 655), (44, 659), (1, 663), (125, 667), (64, 671), (126, 677), (127, 681), (65, 685), (45, 690), (128, 695), (129, 699), (130, 703), (66, 707), (67, 711), (46, 715), (68, 719), (69, 726), (70, 730), (71, 735), (72, 739), (73, 744), (131, 748), (74, 752), (132, 757), (75, 761), (133, 765), (76, 769), (47, 773), (77, 777), (78, 781), (79, 785), (80, 789), (134, 793), (81, 798), (82, 802), (135, 805), (48, 810), (49, 814), (83, 818), (84, 823), (136, 827), (137, 831), (56, 835), (138, 839), (139, 843), (89, 847), (57, 852), (90, 856), (2, 859), (91, 863), (140, 867), (92, 871), (141, 875), (93, 879), (142, 885), (60, 889), (143, 893), (144, 897), (85, 901), (86, 905), (61, 909), (145, 915), (87, 919), (50, 924), (146, 928), (54, 932), (58, 937), (62, 942), (147, 947), (148, 951), (95, 955), (96, 958), (149, 962), (97, 966), (98, 970), (99, 974), (100, 979), (150, 984), (101, 988), (102, 992), (103, 996), (104, 1001), (151, 1006), (152, 1010), (51, 1014), (52, 1018), (3, 1021), (153, 1030), (154, 1035), (155, 1039), (156, 1132), (157, 1136), (158, 1140), (159, 1144), (160, 1148), (161, 1152), (162, 1160), (163, 1164), (164, 1168), (165, 1172), (166, 1176), (167, 1180), (168, 1184), (169, 1188), (170, 1192), (171, 1196), (172, 1200), (173, 1204), (174, 1208), (175, 1212), (176, 1216), (177, 1220), (178, 1225), (179, 1228), (180, 1232), (181, 1236), (182, 1241), (183, 1244), (184, 1248), (185, 1252), (186, 1256), (187, 1262), (188, 1266), (189, 1270), (190, 1274), (191, 1278), (192, 1282), (193, 1287), (194, 1292), (195, 1296), (196, 1300), (197, 1304), (198, 1308), (199, 1313), (200, 1317), (201, 1321), (202, 1325), (203, 1329), (204, 1333), (205, 1337), (206, 1341), (207, 1345), (208, 1349), (209, 1353), (210, 1357), (211, 1361), (212, 1365), (213, 1369), (214, 1373), (215, 1377), (216, 1382), (217, 1386), (218, 1390), (219, 1394), (220, 1397), (221, 1401), (222, 1405), (223, 1409), (224, 1413), (225, 1417), (226, 1421), (227, 1426), (228, 1430), (229, 1434), (230, 1439), (231, 1443), (232, 1447), (233, 1451), (234, 1454), (235, 1459), (236, 1463), (237, 1469), (238, 1473)]
noncomputable def am_i2 : List (Nat × Nat) := [(105, 69), (106, 69), (107, 69), (108, 69), (109, 69), (110, 69), (111, 69), (112, 69), (113, 69), (114, 69), (115, 69), (116, 69), (117, 69), (118, 69), (119, 69), (120, 69), (121, 69), (122, 69), (123, 69), (124, 69), (125, 69), (126, 69), (127, 69), (128, 69), (129, 69), (130, 69), (131, 69), (132, 69), (133, 69), (134, 69), (135, 69), (136, 69), (137, 69), (138, 69), (139, 69), (140, 69), (141, 69), (142, 69), (143, 69), (144, 69), (145, 69), (146, 69), (147, 69), (148, 69), (149, 69), (150, 69), (151, 69), (152, 69), (10, 70), (11, 70), (12, 70), (13, 70), (14, 70), (15, 70), (16, 70), (17, 70), (18, 70), (19, 70), (20, 70), (21, 70), (22, 70), (23, 70), (24, 70), (25, 70), (26, 70), (27, 71), (28, 71), (29, 71), (30, 71), (31, 71), (32, 71), (33, 71), (34, 71), (35, 71), (36, 71), (37, 71), (38, 71), (39, 71), (40, 71), (41, 71), (42, 71), (43, 71), (44, 71), (45, 71), (46, 71), (47, 71), (48, 71), (49, 71), (50, 71), (51, 71), (52, 71), (53, 72), (54, 72), (55, 73), (56, 73), (57, 73), (58, 73), (59, 74), (60, 74), (61, 74), (62, 74), (63, 75), (64, 75), (65, 75), (66, 75), (67, 75), (68, 75), (69, 75), (70, 75), (71, 75), (72, 75), (73, 75), (74, 75), (75, 75), (76, 75), (77, 75), (78, 75), (79, 75), (80, 75), (81, 75), (82, 75), (83, 75), (84, 75), (85, 75), (86, 75), (87, 75), (88, 76), (89, 76), (90, 76), (91, 76), (92, 76), (93, 76), (94, 77), (95, 77), (96, 77), (97, 77), (98, 77), (99, 77), (100, 77), (101, 77), (102, 77), (103, 77), (104, 77), (4, 78), (153, 79), (154, 79), (155, 79), (156, 79), (157, 79), (158, 79), (159, 79), (160, 79), (161, 79), (162, 79), (163, 79), (164, 79), (165, 79), (166, 79), (167, 79), (168, 79), (169, 79), (170, 79), (171, 79), (172, 79), (173, 79), (174, 79), (175, 79), (176, 79), (177, 79), (178, 79), (179, 79), (180, 79), (181, 79), (182, 79), (183, 79), (184, 79), (185, 79), (186, 79), (187, 79), (188, 79), (189, 79), (190, 79), (191, 79), (192, 79), (193, 79), (194, 79), (195, 79), (196, 79), (197, 79), (198, 79), (199, 79), (200, 79), (201, 79), (202, 79), (203, 79), (204, 79), (205, 79), (206, 79), (207, 79), (208, 79), (209, 79), (210, 79), (211, 79), (212, 79), (213, 79), (214, 79), (215, 79), (216, 79), (217, 79), (218, 79), (219, 79), (220, 79), (221, 79), (222, 79), (223, 79), (224, 79), (225, 79), (226, 79), (227, 79), (228, 79), (229, 79), (230, 79), (231, 79), (232, 79), (233, 79), (234, 79), (235, 79), (236, 79), (237, 79), (238, 79), (6, 80), (7, 80), (8, 80), (9, 80), (5, 81), (0, 85), (1, 85), (2, 85), (3, 86)]
noncomputable def am_i3 : List (Nat × Nat) := [(105, 90), (10, 98), (27, 104), (53, 227), (55, 235), (59, 255), (63, 287), (88, 319), (94, 336), (4, 341), (106, 385), (107, 389), (11, 392), (108, 396), (109, 400), (12, 404), (28, 408), (13, 414), (14, 418), (15, 421), (16, 424), (17, 428), (18, 432), (19, 436), (20, 440), (21, 443), (22, 452), (6, 455), (7, 459), (8, 465), (9, 469), (5, 473), (23, 504), (24, 510), (29, 517), (30, 521), (25, 526), (31, 529), (32, 533), (110, 537), (26, 541), (33, 544), (34, 548), (111, 555), (112, 559), (35, 563), (113, 567), (36, 573), (114, 578), (37, 582), (38, 586), (115, 590), (116, 594), (117, 599), (0, 603), (118, 606), (119, 610), (120, 614), (121, 620), (122, 624), (123, 628), (124, 632), (39, 636), (40, 640), (41, 645), (42, 650), (43, 654), (44, 658), (1, 662), (125, 665), (64, 669), (126, 675), (127, 679), (65, 683), (45, 688), (128, 693), (129, 697), (130, 702), (66, 705), (67, 710), (46, 713), (68, 718), (69, 725), (70, 729), (71, 734), (72, 738), (73, 742), (131, 746), (74, 750), (132, 755), (75, 759), (133, 763), (76, 767), (47, 771), (77, 776), (78, 780), (79, 784), (80, 788), (134, 791), (81, 796), (82, 801), (135, 804), (48, 808), (49, 813), (83, 817), (84, 822), (136, 826), (137, 829), (56, 833), (138, 837), (139, 841), (89, 845), (57, 850), (90, 855), (2, 858), (91, 861), (140, 865), (92, 869), (141, 873), (93, 877), (142, 883), (60, 887), (143, 891), (144, 895), (85, 899), (86, 904), (61, 907), (145, 913), (87, 917), (50, 922), (146, 926), (54, 930), (58, 935), (62, 940), (147, 945), (148, 949), (95, 953), (96, 957), (149, 960), (97, 964), (98, 968), (99, 972), (100, 977), (150, 982), (101, 986), (102, 990), (103, 994), (104, 999), (151, 1004), (152, 1008), (51, 1012), (52, 1016), (3, 1020), (153, 1029), (154, 1034), (155, 1038), (156, 1130), (157, 1135), (158, 1138), (159, 1142), (160, 1147), (161, 1151), (162, 1159), (163, 1163), (164, 1167), (165, 1171), (166, 1175), (167, 1179), (168, 1183), (169, 1187), (170, 1191), (171, 1195), (172, 1198), (173, 1202), (174, 1207), (175, 1211), (176, 1214), (177, 1219), (178, 1224), (179, 1227), (180, 1230), (181, 1235), (182, 1239), (183, 1243), (184, 1246), (185, 1251), (186, 1254), (187, 1260), (188, 1264), (189, 1268), (190, 1272), (191, 1276), (192, 1280), (193, 1285), (194, 1291), (195, 1295), (196, 1299), (197, 1303), (198, 1307), (199, 1312), (200, 1316), (201, 1319), (202, 1323), (203, 1327), (204, 1332), (205, 1335), (206, 1339), (207, 1344), (208, 1348), (209, 1352), (210, 1355), (211, 1359), (212, 1363), (213, 1367), (214, 1372), (215, 1375), (216, 1380), (217, 1384), (218, 1389), (219, 1393), (220, 1396), (221, 1400), (222, 1404), (223, 1407), (224, 1412), (225, 1415), (226, 1419), (227, 1424), (228, 1428), (229, 1432), (230, 1437), (231, 1442), (232, 1445), (233, 1449), (234, 1453), (235, 1457), (236, 1461), (237, 1467), (238, 1471)]
noncomputable def am_i4 : List (Nat × Nat) := [(13, 0), (14, 1), (17, 2), (18, 3), (19, 4), (20, 5), (22, 6), (23, 7), (24, 8), (25, 9), (26, 10), (42, 11), (43, 12), (44, 13), (130, 14), (67, 15), (68, 16), (69, 17), (70, 18), (71, 19), (72, 20), (77, 21), (78, 22), (79, 23), (80, 24), (82, 25), (49, 26), (83, 27), (84, 28), (90, 29), (86, 30), (154, 31), (155, 32), (160, 33), (161, 34), (162, 35), (163, 36), (164, 37), (165, 38), (166, 39), (167, 40), (168, 41), (169, 42), (170, 43), (171, 44), (174, 45), (175, 46), (177, 47), (178, 48), (181, 49), (185, 50), (194, 51), (195, 52), (196, 53), (197, 54), (198, 55), (199, 56), (200, 57), (204, 58), (207, 59), (208, 60), (209, 61), (218, 62), (219, 63), (221, 64), (222, 65), (224, 66), (231, 67), (106, 386), (11, 393), (108, 397), (109, 401), (12, 405), (28, 409), (6, 456), (7, 460), (8, 466), (9, 470), (29, 518), (30, 522), (31, 530), (32, 534), (33, 545), (34, 549), (111, 556), (112, 560), (35, 564), (113, 568), (36, 574), (114, 579), (37, 583), (38, 587), (115, 591), (116, 595), (117, 600), (118, 607), (119, 611), (120, 615), (121, 621), (122, 625), (123, 629), (124, 633), (39, 637), (40, 641), (41, 646), (125, 666), (64, 670), (126, 676), (127, 680), (65, 684), (45, 689), (128, 694), (129, 698), (66, 706), (46, 714), (73, 743), (131, 747), (74, 751), (132, 756), (75, 760), (133, 764), (76, 768), (47, 772), (134, 792), (81, 797), (48, 809), (137, 830), (56, 834), (138, 838), (139, 842), (89, 846), (57, 851), (91, 862), (140, 866), (92, 870), (141, 874), (93, 878), (142, 884), (60, 888), (143, 892), (144, 896), (85, 900), (61, 908), (145, 914), (87, 918), (50, 923), (146, 927), (54, 931), (58, 936), (62, 941), (147, 946), (148, 950), (95, 954), (149, 961), (97, 965), (98, 969), (99, 973), (100, 978), (150, 983), (101, 987), (102, 991), (103, 995), (104, 1000), (151, 1005), (152, 1009), (51, 1013), (52, 1017), (156, 1131), (158, 1139), (159, 1143), (172, 1199), (173, 1203), (176, 1215), (180, 1231), (182, 1240), (184, 1247), (186, 1255), (187, 1261), (188, 1265), (189, 1269), (190, 1273), (191, 1277), (192, 1281), (193, 1286), (201, 1320), (202, 1324), (203, 1328), (205, 1336), (206, 1340), (210, 1356), (211, 1360), (212, 1364), (213, 1368), (215, 1376), (216, 1381), (217, 1385), (223, 1408), (225, 1416), (226, 1420), (227, 1425), (228, 1429), (229, 1433), (230, 1438), (232, 1446), (233, 1450), (235, 1458), (236, 1462), (237, 1468), (238, 1472)]
noncomputable def am_i5 : List Nat := [10, 27, 53, 55, 59, 63, 88, 94, 105, 153]
noncomputable def am_pr : Option Cond → Option (MethodName × Nat × Option FieldType)
  | some (.code y _ m r) => some (y, m, r)
  | _ => none
theorem am_pr_ok {w : Option Cond} {y : MethodName} {m : Nat} {r : Option FieldType} (h : am_pr w = some (y, m, r)) : ∃ b, w = some (.code y b m r) := by
  unfold am_pr at h
  split at h
  · cases h
    exact ⟨_, rfl⟩
  · cases h
noncomputable def am_w3 (k : Nat) : Cond := match (am_mq k).2.2.2.1 with
  | none => .static (am_infq k).1
  | some _ => .instanceMethod (am_infq k).1
noncomputable def am_w4 (k : Nat) : Cond := .selects (am_infq k).1.cls (am_infq k).1 (am_infq k).1
set_option maxRecDepth 100000 in
theorem am_i1_r : (am_pk 0 (am_i1.map fun q => q.2) lw_tbl).map am_pr = am_i1.map fun q => some ((am_infq q.1).1, (am_mq q.1).2.1, (am_infq q.1).2) := rfl
set_option maxRecDepth 100000 in
theorem am_i2_r : am_pk 0 (am_i2.map fun q => q.2) lw_tbl = am_i2.map fun q => some (Cond.initialized (am_infq q.1).1.cls) := rfl
set_option maxRecDepth 100000 in
theorem am_i3_r : am_pk 0 (am_i3.map fun q => q.2) lw_tbl = am_i3.map fun q => some (am_w3 q.1) := rfl
set_option maxRecDepth 100000 in
theorem am_i4_r : am_pk 0 (am_i4.map fun q => q.2) lw_tbl = am_i4.map fun q => some (am_w4 q.1) := rfl
set_option maxRecDepth 100000 in
theorem am_i5_r : (am_i5.map fun k => (am_infq k).1.name) = am_i5.map fun _ => "<init>" := rfl
noncomputable def am_mwd (k : Nat) : Nat × Nat × Nat × Nat := am_mw.getD k (0, 0, 0, 0)
noncomputable def am_in2 (l : List (Nat × Nat)) (k i : Nat) : Bool := l.any fun q => Nat.beq q.1 k && Nat.beq q.2 i
theorem am_in2_ok {l : List (Nat × Nat)} {k i : Nat} (h : am_in2 l k i = true) : (k, i) ∈ l := by
  obtain ⟨q, hq, he⟩ := List.any_eq_true.mp h
  obtain ⟨h1, h2⟩ := am_and he
  have e1 := am_beq h1
  have e2 := am_beq h2
  subst e1
  subst e2
  exact hq
theorem am_i_c : ((List.range 239).all fun k => am_in2 am_i1 k (am_mwd k).1 && (am_in2 am_i2 k (am_mwd k).2.1 && (am_in2 am_i3 k (am_mwd k).2.2.1 && ((am_mq k).2.2.2.1.isNone || (am_i5.any (fun q => Nat.beq q k) || am_in2 am_i4 k (am_mwd k).2.2.2))))) = true := by decide +kernel
theorem am_i_g {k : Nat} (h : k < 239) : (k, (am_mwd k).1) ∈ am_i1 ∧ (k, (am_mwd k).2.1) ∈ am_i2 ∧ (k, (am_mwd k).2.2.1) ∈ am_i3 ∧ ((am_mq k).2.2.2.1 = none ∨ k ∈ am_i5 ∨ (k, (am_mwd k).2.2.2) ∈ am_i4) := by
  have q := List.all_eq_true.mp am_i_c k (List.mem_range.mpr h)
  obtain ⟨q1, q⟩ := am_and q
  obtain ⟨q2, q⟩ := am_and q
  obtain ⟨q3, q⟩ := am_and q
  refine ⟨am_in2_ok q1, am_in2_ok q2, am_in2_ok q3, ?_⟩
  rw [Bool.or_eq_true, Bool.or_eq_true] at q
  rcases q with q | q | q
  · exact Or.inl (Option.isNone_iff_eq_none.mp q)
  · obtain ⟨j, hj, he⟩ := List.any_eq_true.mp q
    rw [← am_beq he]
    exact Or.inr (Or.inl hj)
  · exact Or.inr (Or.inr (am_in2_ok q))
theorem am_g1 {k : Nat} (h : k < 239) : ∃ b, lw_tbl[(am_mwd k).1]? = some (.code (am_infq k).1 b (am_mq k).2.1 (am_infq k).2) := by
  have e := am_i1_r
  have e0 := am_pkok (T := lw_tbl) (am_i1.map fun q => q.2) 0 (by decide +kernel)
  rw [List.drop_zero] at e0
  rw [e0, List.map_map, List.map_map] at e
  exact am_pr_ok (List.map_inj_left.mp e _ (am_i_g h).1)
theorem am_g2 {k : Nat} (h : k < 239) : lw_tbl[(am_mwd k).2.1]? = some (.initialized (am_infq k).1.cls) :=
  am_allx (fun q => q.2) (fun q => Cond.initialized (am_infq q.1).1.cls) (by decide +kernel) am_i2_r _ (am_i_g h).2.1
theorem am_g3 {k : Nat} (h : k < 239) : lw_tbl[(am_mwd k).2.2.1]? = some (am_w3 k) :=
  am_allx (fun q => q.2) (fun q => am_w3 q.1) (by decide +kernel) am_i3_r _ (am_i_g h).2.2.1
theorem am_g4 {k : Nat} (h : k < 239) : (am_mq k).2.2.2.1 = none ∨ (am_infq k).1.name = "<init>" ∨ lw_tbl[(am_mwd k).2.2.2]? = some (am_w4 k) := by
  rcases (am_i_g h).2.2.2 with q | q | q
  · exact Or.inl q
  · exact Or.inr (Or.inl (List.map_inj_left.mp am_i5_r k q))
  · exact Or.inr (Or.inr (am_allx (fun q => q.2) (fun q => am_w4 q.1) (by decide +kernel) am_i4_r _ q))
/-- names, parameters, classes -/
noncomputable def am_nmq (k : Nat) : Bool := let y := (am_infq k).1; let M := am_mq k
  plainFor y && decide (y.cls ≠ "java/lang/invoke/MethodHandle") && decide (y.cls ≠ "java/lang/invoke/VarHandle") && decide (am_ownS (am_on.getD k 0) = y.cls) &&
  decide ((parseMethodDescriptor y.desc).map (fun d => d.parameters.length) = some (M.2.2.1 - (if M.2.2.2.1 = none then 0 else 1))) && decide (M.2.1 ≤ 13) &&
  (match M.2.2.2.1 with | none => true | some ci => decide (1 ≤ M.2.2.1) && decide (y.cls = (if ci = 20 then "java/lang/String" else (am_clq ci).1)) && decide (ci = 20 ∨ ci < 10)) &&
  (match (am_infq k).2 with
    | none => M.2.2.2.2 == 0
    | some .int => M.2.2.2.2 == 1
    | some .boolean => M.2.2.2.2 == 2
    | some .long => M.2.2.2.2 == 3
    | some (.object _) => M.2.2.2.2 == 4
    | some .char => M.2.2.2.2 == 5
    | some .byte => M.2.2.2.2 == 6
    | _ => false)
theorem am_nm_c : ((List.range 240).all am_nmq) = true := by decide +kernel
