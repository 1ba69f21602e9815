abbrev am_I : Type := Instr × Nat × Nat
def am_cns : List String := [RX0, RX1, RX2, RX3, RX4, RX5, RX6, RX7, RX8, RX9, RX10, RX11, RX12, "LastLayerLaw", "java/lang/Integer"]
def am_cn (k : Nat) : String := am_cns.getD k ""
def am_T (k : Nat) : u_T := (vwCl.getD k ("", (fun _ => ("", "", "", false)), 0)).2.1
def am_N (k : Nat) : Nat := (vwCl.getD k ("", (fun _ => ("", "", "", false)), 0)).2.2
def am_tyl : List (Nat → FieldType) := [tyX0, tyX1, tyX2, tyX3, tyX4, tyX5, tyX6, tyX7, tyX8, tyX9, tyX10, tyX11, tyX12]
def am_ty (k : Nat) : Nat → FieldType := am_tyl.getD k (fun _ => .int)
/-- fields: own, place in the pool, whose, which, place in the tables -/
def am_F_0 : List (Nat × Nat × Nat × Nat × Nat) := [
  (6, 9, 6, 0, 186), (6, 15, 6, 1, 187), (6, 19, 6, 2, 188), (6, 22, 6, 3, 189), (6, 48, 6, 4, 190), (6, 51, 6, 5, 191), (6, 42, 6, 6, 192), (6, 45, 6, 7, 193),
  (6, 33, 6, 8, 194), (11, 150, 6, 8, 195), (6, 26, 6, 9, 196), (11, 181, 6, 9, 197), (6, 30, 6, 10, 198), (11, 184, 6, 10, 199), (10, 35, 6, 11, 200), (2, 43, 6, 11, 201),
  (6, 98, 6, 11, 202), (2, 54, 6, 12, 203), (10, 46, 6, 12, 204), (6, 104, 6, 12, 205), (6, 107, 6, 13, 206), (2, 134, 6, 14, 207), (6, 110, 6, 14, 208), (10, 70, 6, 15, 209),
  (2, 94, 6, 15, 210), (6, 113, 6, 15, 211), (6, 101, 6, 16, 212), (4, 15, 4, 0, 268), (9, 89, 4, 0, 269), (4, 19, 4, 1, 270), (11, 228, 4, 1, 271), (4, 23, 4, 2, 272),
  (10, 109, 4, 2, 273), (11, 239, 4, 2, 274), (9, 201, 4, 2, 275), (4, 9, 4, 3, 276), (4, 27, 4, 4, 277), (4, 30, 4, 5, 278), (5, 15, 5, 0, 297), (9, 93, 5, 0, 298)]
def am_F_1 : List (Nat × Nat × Nat × Nat × Nat) := [
  (5, 19, 5, 1, 299), (3, 169, 5, 1, 300), (9, 122, 5, 1, 301), (11, 253, 5, 1, 302), (5, 22, 5, 2, 303), (8, 47, 5, 2, 304), (10, 130, 5, 2, 305), (9, 132, 5, 2, 306),
  (11, 258, 5, 2, 307), (5, 9, 5, 3, 308), (10, 137, 5, 3, 309), (9, 169, 5, 3, 310), (11, 261, 5, 3, 311), (5, 26, 5, 4, 312), (9, 168, 5, 4, 313), (11, 264, 5, 4, 314),
  (0, 7, 0, 0, 331), (9, 94, 0, 0, 332), (0, 13, 0, 1, 333), (8, 90, 0, 1, 334), (3, 124, 0, 1, 335), (9, 147, 0, 1, 336), (11, 272, 0, 1, 337), (0, 17, 0, 2, 338),
  (10, 162, 0, 2, 339), (9, 150, 0, 2, 340), (11, 277, 0, 2, 341), (0, 20, 0, 3, 342), (10, 165, 0, 3, 343), (9, 153, 0, 3, 344), (11, 280, 0, 3, 345), (0, 23, 0, 4, 346),
  (9, 108, 0, 4, 347), (11, 283, 0, 4, 348), (0, 26, 0, 5, 349), (9, 156, 0, 5, 350), (11, 328, 0, 5, 351), (9, 11, 9, 0, 365), (10, 96, 9, 0, 366), (8, 104, 9, 0, 367)]
def am_F_2 : List (Nat × Nat × Nat × Nat × Nat) := [
  (3, 138, 9, 0, 368), (11, 224, 9, 0, 369), (9, 19, 9, 1, 370), (8, 43, 9, 1, 371), (10, 123, 9, 1, 372), (3, 162, 9, 1, 373), (11, 249, 9, 1, 374), (9, 25, 9, 2, 375),
  (8, 86, 9, 2, 376), (3, 95, 9, 2, 377), (10, 146, 9, 2, 378), (11, 268, 9, 2, 379), (9, 29, 9, 3, 380), (10, 168, 9, 3, 381), (11, 289, 9, 3, 382), (9, 32, 9, 4, 383),
  (9, 49, 9, 5, 384), (10, 82, 9, 5, 385), (8, 101, 9, 5, 386), (11, 166, 9, 5, 387), (9, 52, 9, 6, 388), (8, 35, 9, 6, 389), (10, 120, 9, 6, 390), (3, 159, 9, 6, 391),
  (11, 187, 9, 6, 392), (9, 55, 9, 7, 393), (8, 72, 9, 7, 394), (10, 150, 9, 7, 395), (11, 190, 9, 7, 396), (9, 58, 9, 8, 397), (10, 171, 9, 8, 398), (11, 193, 9, 8, 399),
  (9, 39, 9, 9, 400), (10, 174, 9, 9, 401), (11, 196, 9, 9, 402), (9, 43, 9, 10, 403), (10, 177, 9, 10, 404), (8, 142, 9, 10, 405), (11, 199, 9, 10, 406), (9, 61, 9, 11, 407)]
def am_F_3 : List (Nat × Nat × Nat × Nat × Nat) := [
  (10, 180, 9, 11, 408), (11, 202, 9, 11, 409), (9, 64, 9, 12, 410), (10, 183, 9, 12, 411), (8, 145, 9, 12, 412), (11, 205, 9, 12, 413), (9, 46, 9, 13, 414), (3, 150, 9, 13, 415),
  (11, 208, 9, 13, 416), (9, 67, 9, 14, 417), (11, 292, 9, 14, 418), (3, 47, 9, 15, 419), (9, 70, 9, 15, 420), (8, 57, 9, 15, 421), (11, 215, 9, 15, 422), (9, 73, 9, 16, 423),
  (11, 218, 9, 16, 424), (9, 76, 9, 17, 425), (11, 408, 9, 17, 426), (1, 9, 1, 0, 470), (3, 57, 1, 0, 471), (2, 79, 1, 0, 472), (1, 15, 1, 1, 473), (2, 81, 1, 1, 474),
  (3, 70, 1, 1, 475), (1, 18, 1, 2, 476), (2, 84, 1, 2, 477), (3, 73, 1, 2, 478), (1, 21, 1, 3, 479), (2, 87, 1, 3, 480), (3, 84, 1, 3, 481), (1, 24, 1, 4, 482),
  (3, 67, 1, 4, 483), (2, 64, 1, 4, 484), (1, 27, 1, 5, 485), (3, 54, 1, 5, 486), (2, 67, 1, 5, 487), (11, 178, 1, 5, 488), (1, 31, 1, 6, 489), (2, 46, 1, 6, 490)]
def am_F_4 : List (Nat × Nat × Nat × Nat × Nat) := [
  (11, 421, 1, 6, 491), (10, 12, 10, 0, 515), (11, 156, 10, 0, 516), (10, 18, 10, 1, 517), (10, 25, 10, 2, 518), (2, 12, 2, 0, 534), (11, 173, 2, 0, 535), (2, 22, 2, 1, 536),
  (2, 26, 2, 2, 537), (2, 18, 2, 3, 538), (2, 33, 2, 4, 539), (8, 12, 8, 0, 561), (11, 338, 8, 0, 562), (8, 21, 8, 1, 563), (8, 69, 8, 2, 564), (11, 355, 8, 2, 565),
  (8, 66, 8, 3, 566), (11, 358, 8, 3, 567), (8, 75, 8, 4, 568), (11, 364, 8, 4, 569), (8, 25, 8, 5, 570), (11, 367, 8, 5, 571), (8, 120, 8, 6, 572), (11, 379, 8, 6, 573),
  (8, 29, 8, 7, 574), (11, 382, 8, 7, 575), (8, 32, 8, 8, 576), (3, 18, 3, 0, 602), (11, 429, 3, 0, 603), (3, 22, 3, 1, 604), (11, 428, 3, 1, 605), (3, 26, 3, 2, 606),
  (11, 432, 3, 2, 607), (3, 29, 3, 3, 608), (11, 435, 3, 3, 609), (3, 64, 3, 4, 610), (11, 438, 3, 4, 611), (3, 66, 3, 5, 612), (11, 440, 3, 5, 613), (3, 32, 3, 6, 614)]
def am_F_5 : List (Nat × Nat × Nat × Nat × Nat) := [
  (11, 441, 3, 6, 615), (3, 9, 3, 7, 616), (3, 15, 3, 8, 617), (3, 35, 3, 9, 618), (3, 38, 3, 10, 619), (7, 9, 7, 0, 650), (7, 19, 7, 1, 651), (11, 132, 7, 1, 652),
  (7, 15, 7, 2, 653), (11, 302, 7, 2, 654), (11, 11, 11, 0, 662), (11, 18, 11, 1, 663), (11, 25, 11, 2, 664), (11, 32, 11, 3, 665), (11, 41, 11, 4, 666), (11, 50, 11, 5, 667),
  (11, 57, 11, 6, 668), (11, 64, 11, 7, 669), (11, 68, 11, 8, 670), (11, 71, 11, 9, 671), (11, 75, 11, 10, 672), (11, 444, 11, 11, 673), (11, 84, 11, 12, 674), (11, 88, 11, 13, 675),
  (11, 79, 11, 14, 676), (12, 74, 12, 0, 1574), (12, 71, 12, 1, 1575), (12, 77, 12, 2, 1576), (12, 7, 12, 3, 1577), (12, 13, 12, 4, 1578), (12, 17, 12, 5, 1579), (12, 20, 12, 6, 1580),
  (12, 24, 12, 7, 1581), (12, 243, 12, 8, 1582), (12, 114, 12, 9, 1583), (12, 28, 12, 10, 1584), (12, 32, 12, 11, 1585), (12, 220, 12, 12, 1586), (12, 223, 12, 13, 1587), (12, 126, 12, 14, 1588)]
def am_F_6 : List (Nat × Nat × Nat × Nat × Nat) := [
  (12, 120, 12, 15, 1589), (12, 117, 12, 16, 1590), (12, 145, 12, 17, 1591), (12, 139, 12, 18, 1592), (12, 132, 12, 19, 1593), (12, 35, 12, 20, 1594), (12, 38, 12, 21, 1595), (12, 41, 12, 22, 1596),
  (12, 520, 12, 23, 1597), (12, 271, 12, 24, 1598), (12, 304, 12, 25, 1599), (12, 44, 12, 26, 1600), (12, 420, 12, 27, 1601), (12, 423, 12, 28, 1602), (12, 426, 12, 29, 1603), (12, 47, 12, 30, 1604),
  (12, 50, 12, 31, 1605), (12, 441, 12, 32, 1606), (12, 53, 12, 33, 1607), (12, 56, 12, 34, 1608), (12, 59, 12, 35, 1609), (12, 447, 12, 36, 1610), (12, 444, 12, 37, 1611), (12, 62, 12, 38, 1612),
  (12, 65, 12, 39, 1613), (12, 68, 12, 40, 1614), (12, 515, 12, 41, 1615), (12, 490, 12, 42, 1616), (12, 471, 12, 43, 1617), (12, 487, 12, 44, 1618), (12, 497, 12, 45, 1619), (12, 478, 12, 46, 1620),
  (12, 494, 12, 47, 1621)]
def am_F : List (Nat × Nat × Nat × Nat × Nat) := am_F_0 ++ (am_F_1 ++ (am_F_2 ++ (am_F_3 ++ (am_F_4 ++ (am_F_5 ++ (am_F_6))))))
def am_M_0 : List (Nat × Nat × Nat × Nat × Nat × Nat) := [
  (13, 9, 128, 1, 0, 172), (11, 1, 1000, 9, 0, 175), (11, 17, 46, 2, 0, 182), (6, 3, 1000, 9, 0, 185), (11, 24, 87, 1, 0, 253), (9, 3, 1000, 9, 0, 256), (9, 36, 30, 2, 0, 264), (4, 3, 1000, 9, 0, 267),
  (9, 37, 43, 2, 0, 293), (5, 3, 1000, 9, 0, 296), (9, 38, 0, 2, 0, 327), (0, 1, 1000, 9, 0, 330), (11, 31, 5, 2, 0, 466), (1, 3, 1000, 9, 0, 469), (11, 38, 117, 1, 1, 509), (10, 3, 1000, 9, 0, 512),
  (10, 11, 87, 1, 0, 514), (11, 47, 8, 1, 2, 528), (2, 3, 1000, 9, 0, 531), (2, 11, 5, 2, 0, 533), (11, 56, 73, 2, 0, 553), (8, 3, 1000, 9, 0, 556), (8, 11, 87, 1, 0, 558), (8, 20, 30, 2, 0, 560),
  (11, 63, 18, 2, 0, 598), (3, 3, 1000, 9, 0, 601), (11, 83, 65, 2, 0, 646), (7, 3, 1000, 9, 0, 649), (13, 13, 136, 0, 0, 708), (13, 18, 137, 0, 0, 712), (13, 23, 138, 0, 0, 716), (13, 27, 139, 0, 3, 720),
  (11, 91, 133, 0, 1, 724), (11, 95, 134, 0, 3, 728), (11, 99, 132, 0, 1, 732), (11, 102, 67, 0, 2, 736), (7, 22, 1001, 9, 0, 740), (11, 106, 131, 0, 0, 743), (13, 34, 141, 0, 3, 747), (11, 116, 140, 0, 2, 751)]
def am_M_1 : List (Nat × Nat × Nat × Nat × Nat × Nat) := [
  (11, 110, 66, 0, 0, 755), (11, 113, 68, 0, 1, 759), (11, 120, 70, 0, 2, 763), (7, 28, 68, 0, 1, 767), (13, 39, 142, 0, 2, 768), (11, 124, 130, 0, 1, 772), (11, 128, 71, 0, 1, 776), (13, 44, 143, 0, 5, 781),
  (11, 135, 69, 0, 2, 785), (11, 139, 72, 0, 4, 789), (7, 34, 69, 0, 2, 793), (7, 38, 1004, 9, 0, 794), (13, 49, 144, 0, 5, 797), (11, 143, 47, 0, 0, 801), (11, 146, 48, 0, 1, 805), (13, 54, 145, 0, 1, 809),
  (11, 153, 118, 0, 1, 813), (10, 22, 88, 0, 0, 817), (10, 29, 49, 0, 1, 821), (6, 36, 1001, 9, 0, 825), (6, 54, 54, 0, 0, 826), (6, 61, 50, 0, 1, 830), (6, 65, 53, 0, 3, 834), (6, 69, 51, 0, 1, 838),
  (6, 73, 55, 0, 0, 842), (6, 84, 56, 0, 1, 847), (6, 76, 52, 0, 1, 900), (6, 79, 57, 0, 0, 904), (6, 58, 58, 0, 0, 908), (10, 38, 119, 0, 0, 912), (10, 49, 121, 0, 0, 916), (10, 85, 120, 0, 1, 920),
  (10, 64, 59, 0, 1, 924), (10, 67, 58, 0, 0, 928), (10, 74, 98, 0, 1, 929), (9, 95, 94, 0, 1, 933), (9, 99, 95, 0, 1, 937), (9, 102, 96, 0, 1, 941), (9, 105, 97, 0, 1, 945), (10, 78, 64, 0, 1, 949)]
def am_M_2 : List (Nat × Nat × Nat × Nat × Nat × Nat) := [
  (6, 117, 59, 0, 1, 953), (10, 89, 60, 0, 1, 954), (10, 92, 63, 0, 2, 958), (6, 120, 62, 0, 2, 962), (10, 100, 31, 0, 2, 966), (10, 105, 122, 0, 1, 970), (10, 113, 32, 0, 1, 974), (10, 116, 62, 0, 2, 978),
  (10, 52, 123, 0, 0, 979), (10, 127, 44, 0, 2, 983), (10, 133, 94, 0, 1, 987), (10, 55, 125, 0, 0, 988), (10, 153, 1001, 9, 0, 992), (10, 158, 124, 0, 2, 993), (10, 140, 95, 0, 1, 997), (10, 143, 1, 0, 2, 998),
  (10, 58, 126, 0, 0, 1002), (10, 61, 127, 0, 1, 1006), (10, 42, 61, 0, 1, 1010), (11, 159, 89, 0, 1, 1014), (9, 79, 33, 0, 1, 1018), (4, 33, 1004, 9, 0, 1022), (9, 83, 45, 0, 1, 1023), (9, 86, 2, 0, 1, 1027),
  (11, 163, 6, 0, 0, 1031), (11, 169, 129, 0, 1, 1035), (13, 59, 146, 0, 1, 1039), (11, 172, 9, 0, 1, 1043), (2, 30, 6, 0, 0, 1047), (2, 37, 49, 0, 1, 1048), (2, 50, 59, 0, 1, 1049), (2, 57, 10, 0, 0, 1050),
  (2, 70, 58, 0, 0, 1054), (2, 73, 61, 0, 1, 1055), (2, 61, 11, 0, 0, 1056), (2, 76, 12, 0, 1, 1060), (2, 90, 13, 0, 2, 1064), (2, 98, 94, 0, 1, 1068), (2, 104, 14, 0, 2, 1069), (2, 120, 64, 0, 1, 1073)]
def am_M_3 : List (Nat × Nat × Nat × Nat × Nat × Nat) := [
  (2, 107, 95, 0, 1, 1074), (2, 110, 15, 0, 3, 1075), (2, 124, 63, 0, 2, 1079), (2, 114, 16, 0, 1, 1080), (2, 128, 96, 0, 1, 1084), (2, 131, 60, 0, 1, 1085), (2, 117, 17, 0, 1, 1086), (11, 175, 7, 0, 1, 1090),
  (1, 35, 1004, 9, 0, 1094), (13, 63, 147, 0, 1, 1095), (13, 67, 148, 0, 1, 1099), (11, 211, 100, 0, 0, 1103), (9, 111, 99, 0, 0, 1107), (13, 71, 149, 0, 2, 1111), (11, 221, 90, 0, 1, 1115), (11, 233, 34, 0, 0, 1119),
  (11, 236, 36, 0, 0, 1123), (13, 76, 150, 0, 2, 1127), (11, 243, 35, 0, 1, 1131), (4, 39, 34, 0, 0, 1135), (13, 80, 151, 0, 2, 1136), (11, 246, 91, 0, 1, 1140), (13, 84, 152, 0, 2, 1144), (11, 265, 92, 0, 1, 1148),
  (13, 88, 153, 0, 2, 1152), (11, 286, 93, 0, 1, 1156), (13, 92, 154, 0, 0, 1160), (13, 96, 155, 0, 0, 1164), (11, 295, 99, 0, 0, 1168), (13, 100, 156, 0, 0, 1169), (11, 298, 135, 0, 2, 1173), (13, 105, 157, 0, 2, 1177),
  (13, 109, 158, 0, 1, 1181), (11, 303, 109, 0, 1, 1185), (9, 172, 90, 0, 1, 1189), (9, 179, 34, 0, 0, 1190), (11, 306, 110, 0, 0, 1191), (13, 113, 159, 0, 0, 1195), (11, 309, 112, 0, 1, 1199), (9, 182, 37, 0, 0, 1203)]
def am_M_4 : List (Nat × Nat × Nat × Nat × Nat × Nat) := [
  (4, 43, 1001, 9, 0, 1207), (9, 185, 107, 0, 2, 1208), (9, 129, 103, 0, 1, 1212), (9, 140, 105, 0, 0, 1216), (9, 136, 106, 0, 1, 1220), (9, 143, 108, 0, 2, 1224), (9, 159, 1001, 9, 0, 1228), (9, 165, 4, 0, 2, 1229),
  (9, 175, 40, 0, 1, 1233), (9, 189, 39, 0, 1, 1237), (13, 117, 160, 0, 1, 1241), (11, 312, 113, 0, 2, 1245), (9, 192, 38, 0, 0, 1249), (4, 49, 36, 0, 0, 1253), (13, 121, 162, 0, 1, 1254), (11, 319, 161, 0, 2, 1258),
  (11, 315, 111, 0, 2, 1262), (9, 125, 91, 0, 1, 1266), (13, 126, 163, 0, 1, 1267), (13, 130, 164, 0, 2, 1271), (13, 135, 165, 0, 2, 1275), (13, 139, 166, 0, 2, 1279), (13, 143, 167, 0, 0, 1283), (11, 320, 102, 0, 0, 1287),
  (9, 118, 3, 0, 0, 1291), (11, 323, 353, 3, 1, 1295), (13, 147, 168, 0, 1, 1301), (11, 331, 116, 0, 1, 1305), (9, 204, 115, 0, 1, 1309), (9, 207, 41, 0, 1, 1313), (11, 334, 101, 0, 0, 1317), (9, 115, 36, 0, 0, 1321),
  (13, 151, 169, 0, 2, 1322), (11, 335, 104, 0, 2, 1326), (13, 155, 170, 0, 3, 1330), (11, 341, 107, 0, 2, 1334), (13, 160, 172, 0, 3, 1335), (11, 345, 171, 0, 2, 1339), (11, 348, 114, 0, 2, 1343), (9, 195, 112, 0, 1, 1347)]
def am_M_5 : List (Nat × Nat × Nat × Nat × Nat × Nat) := [
  (9, 198, 113, 0, 2, 1348), (13, 165, 173, 0, 2, 1349), (11, 351, 74, 0, 3, 1353), (8, 39, 89, 0, 1, 1357), (8, 53, 114, 0, 2, 1358), (8, 60, 353, 3, 1, 1359), (13, 169, 174, 0, 0, 1360), (13, 173, 175, 0, 2, 1364),
  (11, 361, 77, 0, 3, 1368), (8, 78, 76, 0, 2, 1372), (8, 82, 75, 0, 3, 1376), (8, 95, 1004, 9, 0, 1380), (13, 177, 176, 0, 1, 1381), (13, 181, 177, 0, 1, 1385), (11, 371, 78, 0, 1, 1389), (8, 108, 34, 0, 0, 1393),
  (11, 375, 80, 0, 2, 1394), (8, 116, 78, 0, 1, 1398), (8, 123, 79, 0, 2, 1399), (8, 112, 90, 0, 1, 1403), (8, 127, 100, 0, 0, 1404), (13, 185, 178, 0, 1, 1405), (13, 189, 179, 0, 1, 1409), (11, 385, 81, 0, 2, 1413),
  (13, 193, 180, 0, 2, 1417), (11, 388, 82, 0, 3, 1421), (13, 197, 181, 0, 0, 1425), (13, 201, 182, 0, 0, 1429), (13, 205, 184, 0, 2, 1433), (11, 391, 183, 0, 3, 1437), (11, 395, 83, 0, 3, 1441), (8, 130, 33, 0, 1, 1445),
  (8, 133, 115, 0, 1, 1446), (8, 136, 41, 0, 1, 1447), (8, 139, 36, 0, 0, 1448), (13, 209, 185, 0, 2, 1449), (11, 398, 84, 0, 3, 1453), (13, 213, 186, 0, 2, 1457), (11, 401, 85, 0, 3, 1461), (13, 217, 187, 0, 1, 1465)]
def am_M_6 : List (Nat × Nat × Nat × Nat × Nat × Nat) := [
  (11, 405, 86, 0, 2, 1469), (13, 221, 188, 0, 1, 1473), (13, 225, 190, 0, 4, 1477), (11, 413, 189, 0, 4, 1481), (11, 417, 42, 0, 3, 1486), (4, 52, 35, 0, 1, 1490), (4, 56, 71, 0, 1, 1491), (13, 230, 191, 0, 1, 1492),
  (11, 424, 19, 0, 3, 1496), (3, 41, 100, 0, 0, 1500), (3, 50, 20, 0, 2, 1501), (3, 60, 22, 0, 3, 1505), (3, 76, 21, 0, 3, 1509), (3, 80, 24, 0, 2, 1513), (3, 135, 90, 0, 1, 1517), (3, 142, 36, 0, 0, 1518),
  (3, 87, 25, 0, 3, 1519), (3, 91, 92, 0, 1, 1523), (3, 99, 3, 0, 0, 1524), (3, 105, 109, 0, 1, 1525), (3, 108, 23, 0, 1, 1526), (3, 112, 26, 0, 1, 1530), (3, 147, 110, 0, 0, 1534), (3, 153, 112, 0, 1, 1535),
  (3, 116, 27, 0, 2, 1536), (3, 156, 113, 0, 2, 1540), (3, 120, 111, 0, 2, 1541), (3, 127, 116, 0, 1, 1542), (3, 131, 28, 0, 1, 1543), (3, 166, 29, 0, 1, 1547), (13, 234, 192, 0, 1, 1552), (13, 238, 193, 0, 2, 1556),
  (13, 242, 194, 0, 0, 1560), (13, 246, 195, 0, 0, 1564), (13, 12, 196, 1, 0, 1570), (12, 1, 1000, 9, 0, 1573), (13, 17, 197, 0, 0, 1719), (13, 22, 198, 0, 0, 1723), (13, 26, 199, 0, 0, 1727), (13, 31, 205, 0, 3, 1731)]
def am_M_7 : List (Nat × Nat × Nat × Nat × Nat × Nat) := [
  (12, 86, 201, 0, 1, 1735), (13, 38, 208, 0, 3, 1739), (12, 94, 207, 0, 2, 1743), (12, 90, 206, 0, 1, 1747), (12, 98, 204, 3, 2, 1751), (13, 43, 209, 0, 2, 1754), (13, 48, 210, 0, 5, 1759), (13, 53, 248, 0, 5, 1763),
  (12, 246, 249, 0, 1, 1767), (13, 66, 252, 0, 1, 1771), (13, 58, 261, 0, 1, 1775), (12, 274, 250, 0, 2, 1779), (12, 230, 219, 0, 0, 1783), (12, 123, 215, 0, 1, 1787), (12, 129, 216, 3, 1, 1791), (12, 142, 217, 3, 1, 1796),
  (12, 148, 218, 0, 1, 1799), (12, 165, 223, 0, 0, 1803), (12, 151, 221, 3, 6, 1807), (12, 155, 222, 0, 1, 1810), (12, 277, 256, 0, 0, 1814), (12, 259, 254, 0, 1, 1818), (12, 226, 243, 0, 2, 1822), (12, 250, 242, 0, 0, 1826),
  (12, 217, 241, 0, 0, 1830), (12, 168, 224, 0, 0, 1834), (12, 171, 225, 0, 0, 1838), (12, 174, 226, 0, 0, 1842), (12, 177, 227, 0, 0, 1846), (12, 180, 228, 0, 0, 1850), (12, 183, 230, 0, 0, 1854), (12, 186, 231, 0, 0, 1858),
  (12, 189, 232, 0, 0, 1862), (12, 192, 233, 0, 0, 1866), (12, 195, 234, 0, 0, 1871), (12, 198, 235, 0, 0, 1875), (12, 201, 236, 0, 0, 1879), (12, 204, 237, 0, 0, 1883), (12, 208, 238, 0, 0, 1887), (12, 161, 229, 0, 0, 1891)]
def am_M_8 : List (Nat × Nat × Nat × Nat × Nat × Nat) := [
  (12, 211, 239, 0, 0, 1895), (12, 214, 240, 0, 0, 1899), (12, 233, 244, 0, 0, 1903), (12, 253, 253, 0, 2, 1907), (12, 262, 247, 0, 3, 1911), (12, 236, 245, 0, 1, 1915), (12, 240, 246, 0, 2, 1919), (12, 106, 202, 3, 3, 1923),
  (12, 280, 257, 0, 0, 1927), (12, 268, 255, 0, 2, 1931), (12, 256, 1002, 9, 0, 1935), (12, 283, 258, 0, 0, 1938), (12, 286, 259, 0, 0, 1942), (12, 289, 260, 0, 0, 1946), (12, 110, 213, 3, 2, 1950), (12, 292, 220, 0, 1, 1953),
  (12, 295, 251, 0, 0, 1957), (12, 298, 350, 0, 2, 1961), (13, 62, 265, 0, 1, 1965), (12, 310, 264, 0, 1, 1969), (12, 307, 263, 0, 1, 1973), (12, 301, 262, 0, 1, 1977), (13, 70, 274, 0, 1, 1981), (12, 321, 200, 0, 1, 1986),
  (12, 324, 273, 0, 0, 1990), (12, 316, 272, 0, 0, 1994), (13, 75, 275, 0, 2, 1998), (12, 327, 266, 0, 1, 2002), (12, 330, 271, 0, 1, 2007), (12, 313, 270, 0, 2, 2011), (13, 79, 276, 0, 2, 2015), (13, 83, 277, 0, 2, 2019),
  (12, 333, 267, 0, 1, 2023), (13, 87, 278, 0, 2, 2027), (12, 336, 268, 0, 1, 2031), (13, 91, 279, 0, 2, 2035), (12, 339, 269, 0, 1, 2039), (13, 95, 280, 0, 0, 2044), (13, 99, 281, 0, 0, 2048), (13, 104, 282, 0, 0, 2052)]
def am_M_9 : List (Nat × Nat × Nat × Nat × Nat × Nat) := [
  (12, 344, 203, 0, 2, 2056), (12, 80, 1003, 9, 0, 2060), (13, 108, 283, 0, 2, 2063), (12, 348, 212, 0, 1, 2067), (13, 112, 294, 0, 1, 2071), (13, 116, 295, 0, 0, 2075), (12, 382, 292, 0, 0, 2079), (12, 357, 1001, 9, 0, 2083),
  (12, 378, 291, 0, 3, 2084), (12, 351, 284, 0, 0, 2088), (12, 367, 285, 0, 1, 2092), (12, 370, 287, 0, 1, 2096), (12, 354, 286, 0, 1, 2100), (12, 374, 290, 0, 3, 2104), (12, 360, 288, 0, 1, 2108), (12, 363, 289, 0, 4, 2112),
  (13, 120, 296, 0, 1, 2116), (12, 387, 293, 0, 1, 2121), (13, 125, 298, 0, 1, 2125), (12, 390, 297, 0, 2, 2129), (13, 129, 299, 0, 1, 2133), (13, 134, 300, 0, 2, 2137), (13, 138, 301, 0, 2, 2141), (13, 142, 302, 0, 2, 2145),
  (13, 146, 305, 0, 0, 2150), (12, 398, 304, 0, 0, 2154), (12, 395, 303, 0, 1, 2158), (12, 401, 214, 3, 1, 2162), (13, 150, 308, 0, 1, 2165), (12, 407, 307, 0, 1, 2169), (12, 404, 306, 0, 1, 2173), (13, 154, 311, 0, 2, 2177),
  (13, 159, 312, 0, 3, 2182), (12, 414, 309, 0, 0, 2187), (12, 417, 310, 0, 0, 2191), (13, 164, 316, 0, 3, 2195), (12, 432, 315, 0, 2, 2199), (12, 435, 314, 0, 2, 2203), (12, 429, 313, 0, 2, 2207), (13, 168, 317, 0, 2, 2211)]
def am_M_10 : List (Nat × Nat × Nat × Nat × Nat × Nat) := [
  (13, 172, 318, 0, 0, 2215), (13, 176, 319, 0, 2, 2219), (12, 438, 320, 0, 2, 2223), (13, 180, 321, 0, 1, 2227), (13, 184, 323, 0, 1, 2231), (12, 450, 322, 0, 4, 2235), (13, 188, 324, 0, 1, 2239), (13, 192, 325, 0, 1, 2243),
  (13, 196, 326, 0, 2, 2247), (13, 200, 327, 0, 0, 2251), (13, 204, 328, 0, 0, 2255), (13, 208, 332, 0, 2, 2259), (12, 454, 329, 0, 1, 2263), (12, 457, 330, 0, 1, 2267), (12, 460, 331, 0, 0, 2271), (13, 212, 333, 0, 2, 2275),
  (13, 216, 334, 0, 2, 2279), (13, 220, 335, 0, 1, 2283), (13, 224, 336, 0, 1, 2287), (13, 229, 338, 0, 4, 2291), (12, 463, 211, 0, 2, 2295), (12, 467, 337, 0, 4, 2299), (13, 233, 347, 0, 1, 2303), (12, 512, 346, 0, 1, 2307),
  (12, 506, 345, 0, 2, 2311), (12, 509, 344, 0, 1, 2315), (12, 500, 342, 0, 1, 2319), (12, 481, 341, 0, 1, 2323), (12, 484, 340, 0, 0, 2327), (12, 475, 339, 0, 1, 2331), (12, 503, 343, 0, 1, 2336), (13, 237, 348, 0, 1, 2340),
  (13, 241, 349, 0, 2, 2345), (13, 245, 351, 0, 0, 2349), (13, 249, 352, 0, 0, 2353)]
def am_M : List (Nat × Nat × Nat × Nat × Nat × Nat) := am_M_0 ++ (am_M_1 ++ (am_M_2 ++ (am_M_3 ++ (am_M_4 ++ (am_M_5 ++ (am_M_6 ++ (am_M_7 ++ (am_M_8 ++ (am_M_9 ++ (am_M_10))))))))))
def am_NW_0 : List (Nat × Nat × Nat × Nat) := [
  (13, 7, 11, 170), (11, 9, 7, 178), (11, 15, 6, 180), (11, 22, 9, 251), (9, 9, 4, 257), (9, 17, 5, 259), (9, 23, 0, 261), (11, 29, 1, 464),
  (11, 36, 10, 507), (10, 9, 9, 513), (11, 45, 2, 526), (2, 9, 1, 532), (11, 54, 8, 551), (8, 9, 9, 557), (8, 18, 4, 559), (11, 61, 3, 596),
  (13, 10, 12, 1568)]
def am_NW : List (Nat × Nat × Nat × Nat) := am_NW_0
def am_CI_0 : List (Nat × Nat × Int32 × Nat) := [
  (14, 265, 1431655765, 1298), (14, 266, 858993459, 1299), (14, 267, 252645135, 1300), (3, 174, 65536, 1551), (12, 474, 65536, 2335)]
def am_CI : List (Nat × Nat × Int32 × Nat) := am_CI_0
def am_CL_0 : List (Nat × Nat × Int64 × Nat) := [
  (7, 32, (-1), 780), (6, 82, 32, 846), (11, 411, 9999, 1485), (12, 102, (-1), 1758), (12, 135, 32, 1794), (12, 137, 96, 1795), (12, 159, 19, 1870), (12, 266, 99, 1926),
  (12, 319, 11, 1985), (12, 104, 3, 2006), (12, 342, 2, 2043), (12, 385, 20, 2120), (12, 393, 9, 2149), (12, 410, 9999, 2181), (12, 412, 999, 2186), (12, 518, 4, 2344),
  (13, 32, 4294967295, 2357)]
def am_CL : List (Nat × Nat × Int64 × Nat) := am_CL_0
/-- hot: own, a maker or not, locals, kind of answer -/
noncomputable def am_inf_0_0_0_0 (q : Nat) : Nat × Bool × Nat × Nat := (0, true, 1, 0)
noncomputable def am_inf_0_0_0_1 (q : Nat) : Nat × Bool × Nat × Nat := (0, false, 4, 0)
noncomputable def am_inf_0_0_0_2 (q : Nat) : Nat × Bool × Nat × Nat := (0, false, 2, 0)
noncomputable def am_inf_0_0_0_3 (q : Nat) : Nat × Bool × Nat × Nat := bif Nat.blt q 4 then ((0, false, 1, 2)) else ((0, false, 4, 1))
noncomputable def am_inf_0_0_0 (q : Nat) : Nat × Bool × Nat × Nat := bif Nat.blt q 2 then (bif Nat.blt q 1 then (am_inf_0_0_0_0 q) else (am_inf_0_0_0_1 q)) else (bif Nat.blt q 3 then (am_inf_0_0_0_2 q) else (am_inf_0_0_0_3 q))
noncomputable def am_inf_0_0_1_0 (q : Nat) : Nat × Bool × Nat × Nat := (1, true, 1, 0)
noncomputable def am_inf_0_0_1_1 (q : Nat) : Nat × Bool × Nat × Nat := bif Nat.blt q 7 then ((1, false, 1, 0)) else ((1, false, 2, 0))
noncomputable def am_inf_0_0_1_2 (q : Nat) : Nat × Bool × Nat × Nat := (2, true, 3, 0)
noncomputable def am_inf_0_0_1_3 (q : Nat) : Nat × Bool × Nat × Nat := bif Nat.blt q 10 then ((2, false, 3, 2)) else ((2, false, 1, 2))
noncomputable def am_inf_0_0_1 (q : Nat) : Nat × Bool × Nat × Nat := bif Nat.blt q 8 then (bif Nat.blt q 6 then (am_inf_0_0_1_0 q) else (am_inf_0_0_1_1 q)) else (bif Nat.blt q 9 then (am_inf_0_0_1_2 q) else (am_inf_0_0_1_3 q))
noncomputable def am_inf_0_0_2_0 (q : Nat) : Nat × Bool × Nat × Nat := (2, false, 4, 2)
noncomputable def am_inf_0_0_2_1 (q : Nat) : Nat × Bool × Nat × Nat := (2, false, 2, 2)
noncomputable def am_inf_0_0_2_2 (q : Nat) : Nat × Bool × Nat × Nat := (2, false, 3, 2)
noncomputable def am_inf_0_0_2_3 (q : Nat) : Nat × Bool × Nat × Nat := bif Nat.blt q 15 then ((2, false, 3, 2)) else ((2, false, 4, 2))
noncomputable def am_inf_0_0_2 (q : Nat) : Nat × Bool × Nat × Nat := bif Nat.blt q 13 then (bif Nat.blt q 12 then (am_inf_0_0_2_0 q) else (am_inf_0_0_2_1 q)) else (bif Nat.blt q 14 then (am_inf_0_0_2_2 q) else (am_inf_0_0_2_3 q))
noncomputable def am_inf_0_0_3_0 (q : Nat) : Nat × Bool × Nat × Nat := (2, false, 2, 2)
noncomputable def am_inf_0_0_3_1 (q : Nat) : Nat × Bool × Nat × Nat := bif Nat.blt q 18 then ((2, false, 3, 2)) else ((3, true, 1, 0))
noncomputable def am_inf_0_0_3_2 (q : Nat) : Nat × Bool × Nat × Nat := (3, false, 8, 0)
noncomputable def am_inf_0_0_3_3 (q : Nat) : Nat × Bool × Nat × Nat := bif Nat.blt q 21 then ((3, false, 5, 1)) else ((3, false, 4, 1))
noncomputable def am_inf_0_0_3 (q : Nat) : Nat × Bool × Nat × Nat := bif Nat.blt q 19 then (bif Nat.blt q 17 then (am_inf_0_0_3_0 q) else (am_inf_0_0_3_1 q)) else (bif Nat.blt q 20 then (am_inf_0_0_3_2 q) else (am_inf_0_0_3_3 q))
noncomputable def am_inf_0_0 (q : Nat) : Nat × Bool × Nat × Nat := bif Nat.blt q 11 then (bif Nat.blt q 5 then (am_inf_0_0_0 q) else (am_inf_0_0_1 q)) else (bif Nat.blt q 16 then (am_inf_0_0_2 q) else (am_inf_0_0_3 q))
noncomputable def am_inf_0_1_0_0 (q : Nat) : Nat × Bool × Nat × Nat := (3, false, 6, 1)
noncomputable def am_inf_0_1_0_1 (q : Nat) : Nat × Bool × Nat × Nat := (3, false, 2, 0)
noncomputable def am_inf_0_1_0_2 (q : Nat) : Nat × Bool × Nat × Nat := (3, false, 3, 1)
noncomputable def am_inf_0_1_0_3 (q : Nat) : Nat × Bool × Nat × Nat := bif Nat.blt q 26 then ((3, false, 4, 2)) else ((3, false, 2, 2))
noncomputable def am_inf_0_1_0 (q : Nat) : Nat × Bool × Nat × Nat := bif Nat.blt q 24 then (bif Nat.blt q 23 then (am_inf_0_1_0_0 q) else (am_inf_0_1_0_1 q)) else (bif Nat.blt q 25 then (am_inf_0_1_0_2 q) else (am_inf_0_1_0_3 q))
noncomputable def am_inf_0_1_1_0 (q : Nat) : Nat × Bool × Nat × Nat := (3, false, 3, 2)
noncomputable def am_inf_0_1_1_1 (q : Nat) : Nat × Bool × Nat × Nat := bif Nat.blt q 29 then ((3, false, 3, 0)) else ((3, false, 2, 1))
noncomputable def am_inf_0_1_1_2 (q : Nat) : Nat × Bool × Nat × Nat := (4, true, 1, 0)
noncomputable def am_inf_0_1_1_3 (q : Nat) : Nat × Bool × Nat × Nat := bif Nat.blt q 32 then ((4, false, 4, 0)) else ((4, false, 2, 0))
noncomputable def am_inf_0_1_1 (q : Nat) : Nat × Bool × Nat × Nat := bif Nat.blt q 30 then (bif Nat.blt q 28 then (am_inf_0_1_1_0 q) else (am_inf_0_1_1_1 q)) else (bif Nat.blt q 31 then (am_inf_0_1_1_2 q) else (am_inf_0_1_1_3 q))
noncomputable def am_inf_0_1_2_0 (q : Nat) : Nat × Bool × Nat × Nat := (4, false, 2, 0)
noncomputable def am_inf_0_1_2_1 (q : Nat) : Nat × Bool × Nat × Nat := (4, false, 1, 1)
noncomputable def am_inf_0_1_2_2 (q : Nat) : Nat × Bool × Nat × Nat := (4, false, 2, 1)
noncomputable def am_inf_0_1_2_3 (q : Nat) : Nat × Bool × Nat × Nat := bif Nat.blt q 37 then ((4, false, 3, 1)) else ((4, false, 3, 1))
noncomputable def am_inf_0_1_2 (q : Nat) : Nat × Bool × Nat × Nat := bif Nat.blt q 35 then (bif Nat.blt q 34 then (am_inf_0_1_2_0 q) else (am_inf_0_1_2_1 q)) else (bif Nat.blt q 36 then (am_inf_0_1_2_2 q) else (am_inf_0_1_2_3 q))
noncomputable def am_inf_0_1_3_0 (q : Nat) : Nat × Bool × Nat × Nat := (4, false, 2, 1)
noncomputable def am_inf_0_1_3_1 (q : Nat) : Nat × Bool × Nat × Nat := bif Nat.blt q 40 then ((4, false, 2, 0)) else ((4, false, 3, 0))
noncomputable def am_inf_0_1_3_2 (q : Nat) : Nat × Bool × Nat × Nat := (4, false, 5, 1)
noncomputable def am_inf_0_1_3_3 (q : Nat) : Nat × Bool × Nat × Nat := bif Nat.blt q 43 then ((4, false, 7, 2)) else ((5, true, 1, 0))
noncomputable def am_inf_0_1_3 (q : Nat) : Nat × Bool × Nat × Nat := bif Nat.blt q 41 then (bif Nat.blt q 39 then (am_inf_0_1_3_0 q) else (am_inf_0_1_3_1 q)) else (bif Nat.blt q 42 then (am_inf_0_1_3_2 q) else (am_inf_0_1_3_3 q))
noncomputable def am_inf_0_1 (q : Nat) : Nat × Bool × Nat × Nat := bif Nat.blt q 33 then (bif Nat.blt q 27 then (am_inf_0_1_0 q) else (am_inf_0_1_1 q)) else (bif Nat.blt q 38 then (am_inf_0_1_2 q) else (am_inf_0_1_3 q))
noncomputable def am_inf_0_2_0_0 (q : Nat) : Nat × Bool × Nat × Nat := (5, false, 4, 0)
noncomputable def am_inf_0_2_0_1 (q : Nat) : Nat × Bool × Nat × Nat := (5, false, 2, 0)
noncomputable def am_inf_0_2_0_2 (q : Nat) : Nat × Bool × Nat × Nat := (6, true, 1, 0)
noncomputable def am_inf_0_2_0_3 (q : Nat) : Nat × Bool × Nat × Nat := bif Nat.blt q 48 then ((6, false, 1, 2)) else ((6, false, 3, 0))
noncomputable def am_inf_0_2_0 (q : Nat) : Nat × Bool × Nat × Nat := bif Nat.blt q 46 then (bif Nat.blt q 45 then (am_inf_0_2_0_0 q) else (am_inf_0_2_0_1 q)) else (bif Nat.blt q 47 then (am_inf_0_2_0_2 q) else (am_inf_0_2_0_3 q))
noncomputable def am_inf_0_2_1_0 (q : Nat) : Nat × Bool × Nat × Nat := (6, false, 4, 0)
noncomputable def am_inf_0_2_1_1 (q : Nat) : Nat × Bool × Nat × Nat := bif Nat.blt q 51 then ((6, false, 2, 1)) else ((6, false, 2, 2))
noncomputable def am_inf_0_2_1_2 (q : Nat) : Nat × Bool × Nat × Nat := (6, false, 2, 2)
noncomputable def am_inf_0_2_1_3 (q : Nat) : Nat × Bool × Nat × Nat := bif Nat.blt q 54 then ((6, false, 5, 0)) else ((6, false, 3, 2))
noncomputable def am_inf_0_2_1 (q : Nat) : Nat × Bool × Nat × Nat := bif Nat.blt q 52 then (bif Nat.blt q 50 then (am_inf_0_2_1_0 q) else (am_inf_0_2_1_1 q)) else (bif Nat.blt q 53 then (am_inf_0_2_1_2 q) else (am_inf_0_2_1_3 q))
noncomputable def am_inf_0_2_2_0 (q : Nat) : Nat × Bool × Nat × Nat := (6, false, 5, 2)
noncomputable def am_inf_0_2_2_1 (q : Nat) : Nat × Bool × Nat × Nat := (6, false, 7, 1)
noncomputable def am_inf_0_2_2_2 (q : Nat) : Nat × Bool × Nat × Nat := (6, false, 4, 2)
noncomputable def am_inf_0_2_2_3 (q : Nat) : Nat × Bool × Nat × Nat := bif Nat.blt q 59 then ((6, false, 3, 0)) else ((6, false, 2, 2))
noncomputable def am_inf_0_2_2 (q : Nat) : Nat × Bool × Nat × Nat := bif Nat.blt q 57 then (bif Nat.blt q 56 then (am_inf_0_2_2_0 q) else (am_inf_0_2_2_1 q)) else (bif Nat.blt q 58 then (am_inf_0_2_2_2 q) else (am_inf_0_2_2_3 q))
noncomputable def am_inf_0_2_3_0 (q : Nat) : Nat × Bool × Nat × Nat := (6, false, 2, 2)
noncomputable def am_inf_0_2_3_1 (q : Nat) : Nat × Bool × Nat × Nat := bif Nat.blt q 62 then ((6, false, 2, 2)) else ((6, false, 3, 2))
noncomputable def am_inf_0_2_3_2 (q : Nat) : Nat × Bool × Nat × Nat := (6, false, 4, 1)
noncomputable def am_inf_0_2_3_3 (q : Nat) : Nat × Bool × Nat × Nat := bif Nat.blt q 65 then ((6, false, 2, 1)) else ((7, true, 1, 0))
noncomputable def am_inf_0_2_3 (q : Nat) : Nat × Bool × Nat × Nat := bif Nat.blt q 63 then (bif Nat.blt q 61 then (am_inf_0_2_3_0 q) else (am_inf_0_2_3_1 q)) else (bif Nat.blt q 64 then (am_inf_0_2_3_2 q) else (am_inf_0_2_3_3 q))
noncomputable def am_inf_0_2 (q : Nat) : Nat × Bool × Nat × Nat := bif Nat.blt q 55 then (bif Nat.blt q 49 then (am_inf_0_2_0 q) else (am_inf_0_2_1 q)) else (bif Nat.blt q 60 then (am_inf_0_2_2 q) else (am_inf_0_2_3 q))
noncomputable def am_inf_0_3_0_0 (q : Nat) : Nat × Bool × Nat × Nat := (7, false, 1, 2)
noncomputable def am_inf_0_3_0_1 (q : Nat) : Nat × Bool × Nat × Nat := (7, false, 4, 0)
noncomputable def am_inf_0_3_0_2 (q : Nat) : Nat × Bool × Nat × Nat := (7, false, 2, 2)
noncomputable def am_inf_0_3_0_3 (q : Nat) : Nat × Bool × Nat × Nat := bif Nat.blt q 70 then ((7, false, 3, 2)) else ((7, false, 4, 0))
noncomputable def am_inf_0_3_0 (q : Nat) : Nat × Bool × Nat × Nat := bif Nat.blt q 68 then (bif Nat.blt q 67 then (am_inf_0_3_0_0 q) else (am_inf_0_3_0_1 q)) else (bif Nat.blt q 69 then (am_inf_0_3_0_2 q) else (am_inf_0_3_0_3 q))
noncomputable def am_inf_0_3_1_0 (q : Nat) : Nat × Bool × Nat × Nat := (7, false, 2, 3)
noncomputable def am_inf_0_3_1_1 (q : Nat) : Nat × Bool × Nat × Nat := bif Nat.blt q 73 then ((7, false, 5, 0)) else ((8, true, 1, 0))
noncomputable def am_inf_0_3_1_2 (q : Nat) : Nat × Bool × Nat × Nat := (8, false, 8, 1)
noncomputable def am_inf_0_3_1_3 (q : Nat) : Nat × Bool × Nat × Nat := bif Nat.blt q 76 then ((8, false, 6, 0)) else ((8, false, 5, 1))
noncomputable def am_inf_0_3_1 (q : Nat) : Nat × Bool × Nat × Nat := bif Nat.blt q 74 then (bif Nat.blt q 72 then (am_inf_0_3_1_0 q) else (am_inf_0_3_1_1 q)) else (bif Nat.blt q 75 then (am_inf_0_3_1_2 q) else (am_inf_0_3_1_3 q))
noncomputable def am_inf_0_3_2_0 (q : Nat) : Nat × Bool × Nat × Nat := (8, false, 8, 1)
noncomputable def am_inf_0_3_2_1 (q : Nat) : Nat × Bool × Nat × Nat := (8, false, 4, 1)
noncomputable def am_inf_0_3_2_2 (q : Nat) : Nat × Bool × Nat × Nat := (8, false, 6, 2)
noncomputable def am_inf_0_3_2_3 (q : Nat) : Nat × Bool × Nat × Nat := bif Nat.blt q 81 then ((8, false, 7, 1)) else ((8, false, 7, 1))
noncomputable def am_inf_0_3_2 (q : Nat) : Nat × Bool × Nat × Nat := bif Nat.blt q 79 then (bif Nat.blt q 78 then (am_inf_0_3_2_0 q) else (am_inf_0_3_2_1 q)) else (bif Nat.blt q 80 then (am_inf_0_3_2_2 q) else (am_inf_0_3_2_3 q))
noncomputable def am_inf_0_3_3_0 (q : Nat) : Nat × Bool × Nat × Nat := (8, false, 8, 1)
noncomputable def am_inf_0_3_3_1 (q : Nat) : Nat × Bool × Nat × Nat := bif Nat.blt q 84 then ((8, false, 5, 1)) else ((8, false, 5, 1))
noncomputable def am_inf_0_3_3_2 (q : Nat) : Nat × Bool × Nat × Nat := (8, false, 7, 3)
noncomputable def am_inf_0_3_3_3 (q : Nat) : Nat × Bool × Nat × Nat := bif Nat.blt q 87 then ((8, false, 6, 1)) else ((9, true, 2, 0))
noncomputable def am_inf_0_3_3 (q : Nat) : Nat × Bool × Nat × Nat := bif Nat.blt q 85 then (bif Nat.blt q 83 then (am_inf_0_3_3_0 q) else (am_inf_0_3_3_1 q)) else (bif Nat.blt q 86 then (am_inf_0_3_3_2 q) else (am_inf_0_3_3_3 q))
noncomputable def am_inf_0_3 (q : Nat) : Nat × Bool × Nat × Nat := bif Nat.blt q 77 then (bif Nat.blt q 71 then (am_inf_0_3_0 q) else (am_inf_0_3_1 q)) else (bif Nat.blt q 82 then (am_inf_0_3_2 q) else (am_inf_0_3_3 q))
noncomputable def am_inf_0 (q : Nat) : Nat × Bool × Nat × Nat := bif Nat.blt q 44 then (bif Nat.blt q 22 then (am_inf_0_0 q) else (am_inf_0_1 q)) else (bif Nat.blt q 66 then (am_inf_0_2 q) else (am_inf_0_3 q))
noncomputable def am_inf_1_0_0_0 (q : Nat) : Nat × Bool × Nat × Nat := (9, false, 1, 0)
noncomputable def am_inf_1_0_0_1 (q : Nat) : Nat × Bool × Nat × Nat := (9, false, 3, 0)
noncomputable def am_inf_1_0_0_2 (q : Nat) : Nat × Bool × Nat × Nat := (9, false, 2, 2)
noncomputable def am_inf_1_0_0_3 (q : Nat) : Nat × Bool × Nat × Nat := bif Nat.blt q 92 then ((9, false, 2, 2)) else ((9, false, 2, 2))
noncomputable def am_inf_1_0_0 (q : Nat) : Nat × Bool × Nat × Nat := bif Nat.blt q 90 then (bif Nat.blt q 89 then (am_inf_1_0_0_0 q) else (am_inf_1_0_0_1 q)) else (bif Nat.blt q 91 then (am_inf_1_0_0_2 q) else (am_inf_1_0_0_3 q))
noncomputable def am_inf_1_0_1_0 (q : Nat) : Nat × Bool × Nat × Nat := (9, false, 2, 2)
noncomputable def am_inf_1_0_1_1 (q : Nat) : Nat × Bool × Nat × Nat := bif Nat.blt q 95 then ((9, false, 4, 1)) else ((9, false, 4, 1))
noncomputable def am_inf_1_0_1_2 (q : Nat) : Nat × Bool × Nat × Nat := (9, false, 4, 1)
noncomputable def am_inf_1_0_1_3 (q : Nat) : Nat × Bool × Nat × Nat := bif Nat.blt q 98 then ((9, false, 4, 1)) else ((9, false, 3, 2))
noncomputable def am_inf_1_0_1 (q : Nat) : Nat × Bool × Nat × Nat := bif Nat.blt q 96 then (bif Nat.blt q 94 then (am_inf_1_0_1_0 q) else (am_inf_1_0_1_1 q)) else (bif Nat.blt q 97 then (am_inf_1_0_1_2 q) else (am_inf_1_0_1_3 q))
noncomputable def am_inf_1_0_2_0 (q : Nat) : Nat × Bool × Nat × Nat := (9, false, 3, 1)
noncomputable def am_inf_1_0_2_1 (q : Nat) : Nat × Bool × Nat × Nat := (9, false, 1, 1)
noncomputable def am_inf_1_0_2_2 (q : Nat) : Nat × Bool × Nat × Nat := (9, false, 3, 1)
noncomputable def am_inf_1_0_2_3 (q : Nat) : Nat × Bool × Nat × Nat := bif Nat.blt q 103 then ((9, false, 3, 1)) else ((9, false, 5, 2))
noncomputable def am_inf_1_0_2 (q : Nat) : Nat × Bool × Nat × Nat := bif Nat.blt q 101 then (bif Nat.blt q 100 then (am_inf_1_0_2_0 q) else (am_inf_1_0_2_1 q)) else (bif Nat.blt q 102 then (am_inf_1_0_2_2 q) else (am_inf_1_0_2_3 q))
noncomputable def am_inf_1_0_3_0 (q : Nat) : Nat × Bool × Nat × Nat := (9, false, 3, 1)
noncomputable def am_inf_1_0_3_1 (q : Nat) : Nat × Bool × Nat × Nat := bif Nat.blt q 106 then ((9, false, 3, 0)) else ((9, false, 4, 1))
noncomputable def am_inf_1_0_3_2 (q : Nat) : Nat × Bool × Nat × Nat := (9, false, 5, 1)
noncomputable def am_inf_1_0_3_3 (q : Nat) : Nat × Bool × Nat × Nat := bif Nat.blt q 109 then ((9, false, 7, 0)) else ((9, false, 2, 2))
noncomputable def am_inf_1_0_3 (q : Nat) : Nat × Bool × Nat × Nat := bif Nat.blt q 107 then (bif Nat.blt q 105 then (am_inf_1_0_3_0 q) else (am_inf_1_0_3_1 q)) else (bif Nat.blt q 108 then (am_inf_1_0_3_2 q) else (am_inf_1_0_3_3 q))
noncomputable def am_inf_1_0 (q : Nat) : Nat × Bool × Nat × Nat := bif Nat.blt q 99 then (bif Nat.blt q 93 then (am_inf_1_0_0 q) else (am_inf_1_0_1 q)) else (bif Nat.blt q 104 then (am_inf_1_0_2 q) else (am_inf_1_0_3 q))
noncomputable def am_inf_1_1_0_0 (q : Nat) : Nat × Bool × Nat × Nat := (9, false, 1, 1)
noncomputable def am_inf_1_1_0_1 (q : Nat) : Nat × Bool × Nat × Nat := (9, false, 3, 2)
noncomputable def am_inf_1_1_0_2 (q : Nat) : Nat × Bool × Nat × Nat := (9, false, 3, 1)
noncomputable def am_inf_1_1_0_3 (q : Nat) : Nat × Bool × Nat × Nat := bif Nat.blt q 114 then ((9, false, 5, 1)) else ((9, false, 4, 0))
noncomputable def am_inf_1_1_0 (q : Nat) : Nat × Bool × Nat × Nat := bif Nat.blt q 112 then (bif Nat.blt q 111 then (am_inf_1_1_0_0 q) else (am_inf_1_1_0_1 q)) else (bif Nat.blt q 113 then (am_inf_1_1_0_2 q) else (am_inf_1_1_0_3 q))
noncomputable def am_inf_1_1_1_0 (q : Nat) : Nat × Bool × Nat × Nat := (9, false, 2, 1)
noncomputable def am_inf_1_1_1_1 (q : Nat) : Nat × Bool × Nat × Nat := bif Nat.blt q 117 then ((9, false, 5, 0)) else ((10, true, 2, 0))
noncomputable def am_inf_1_1_1_2 (q : Nat) : Nat × Bool × Nat × Nat := (10, false, 3, 2)
noncomputable def am_inf_1_1_1_3 (q : Nat) : Nat × Bool × Nat × Nat := bif Nat.blt q 120 then ((10, false, 1, 2)) else ((10, false, 4, 3))
noncomputable def am_inf_1_1_1 (q : Nat) : Nat × Bool × Nat × Nat := bif Nat.blt q 118 then (bif Nat.blt q 116 then (am_inf_1_1_1_0 q) else (am_inf_1_1_1_1 q)) else (bif Nat.blt q 119 then (am_inf_1_1_1_2 q) else (am_inf_1_1_1_3 q))
noncomputable def am_inf_1_1_2_0 (q : Nat) : Nat × Bool × Nat × Nat := (10, false, 5, 2)
noncomputable def am_inf_1_1_2_1 (q : Nat) : Nat × Bool × Nat × Nat := (10, false, 4, 2)
noncomputable def am_inf_1_1_2_2 (q : Nat) : Nat × Bool × Nat × Nat := (10, false, 5, 2)
noncomputable def am_inf_1_1_2_3 (q : Nat) : Nat × Bool × Nat × Nat := bif Nat.blt q 125 then ((10, false, 6, 2)) else ((10, false, 2, 2))
noncomputable def am_inf_1_1_2 (q : Nat) : Nat × Bool × Nat × Nat := bif Nat.blt q 123 then (bif Nat.blt q 122 then (am_inf_1_1_2_0 q) else (am_inf_1_1_2_1 q)) else (bif Nat.blt q 124 then (am_inf_1_1_2_2 q) else (am_inf_1_1_2_3 q))
noncomputable def am_inf_1_1_3_0 (q : Nat) : Nat × Bool × Nat × Nat := (10, false, 2, 2)
noncomputable def am_inf_1_1_3_1 (q : Nat) : Nat × Bool × Nat × Nat := bif Nat.blt q 128 then ((10, false, 5, 2)) else ((11, true, 2, 0))
noncomputable def am_inf_1_1_3_2 (q : Nat) : Nat × Bool × Nat × Nat := (11, false, 2, 1)
noncomputable def am_inf_1_1_3_3 (q : Nat) : Nat × Bool × Nat × Nat := bif Nat.blt q 131 then ((11, false, 2, 1)) else ((11, false, 1, 2))
noncomputable def am_inf_1_1_3 (q : Nat) : Nat × Bool × Nat × Nat := bif Nat.blt q 129 then (bif Nat.blt q 127 then (am_inf_1_1_3_0 q) else (am_inf_1_1_3_1 q)) else (bif Nat.blt q 130 then (am_inf_1_1_3_2 q) else (am_inf_1_1_3_3 q))
noncomputable def am_inf_1_1 (q : Nat) : Nat × Bool × Nat × Nat := bif Nat.blt q 121 then (bif Nat.blt q 115 then (am_inf_1_1_0 q) else (am_inf_1_1_1 q)) else (bif Nat.blt q 126 then (am_inf_1_1_2 q) else (am_inf_1_1_3 q))
noncomputable def am_inf_1_2_0_0 (q : Nat) : Nat × Bool × Nat × Nat := (11, false, 2, 2)
noncomputable def am_inf_1_2_0_1 (q : Nat) : Nat × Bool × Nat × Nat := (11, false, 2, 2)
noncomputable def am_inf_1_2_0_2 (q : Nat) : Nat × Bool × Nat × Nat := (11, false, 4, 2)
noncomputable def am_inf_1_2_0_3 (q : Nat) : Nat × Bool × Nat × Nat := bif Nat.blt q 136 then ((11, false, 12, 0)) else ((11, false, 1, 1))
noncomputable def am_inf_1_2_0 (q : Nat) : Nat × Bool × Nat × Nat := bif Nat.blt q 134 then (bif Nat.blt q 133 then (am_inf_1_2_0_0 q) else (am_inf_1_2_0_1 q)) else (bif Nat.blt q 135 then (am_inf_1_2_0_2 q) else (am_inf_1_2_0_3 q))
noncomputable def am_inf_1_2_1_0 (q : Nat) : Nat × Bool × Nat × Nat := (11, false, 1, 3)
noncomputable def am_inf_1_2_1_1 (q : Nat) : Nat × Bool × Nat × Nat := bif Nat.blt q 139 then ((11, false, 1, 3)) else ((11, false, 4, 2))
noncomputable def am_inf_1_2_1_2 (q : Nat) : Nat × Bool × Nat × Nat := (11, false, 3, 1)
noncomputable def am_inf_1_2_1_3 (q : Nat) : Nat × Bool × Nat × Nat := bif Nat.blt q 142 then ((11, false, 6, 2)) else ((11, false, 4, 3))
noncomputable def am_inf_1_2_1 (q : Nat) : Nat × Bool × Nat × Nat := bif Nat.blt q 140 then (bif Nat.blt q 138 then (am_inf_1_2_1_0 q) else (am_inf_1_2_1_1 q)) else (bif Nat.blt q 141 then (am_inf_1_2_1_2 q) else (am_inf_1_2_1_3 q))
noncomputable def am_inf_1_2_2_0 (q : Nat) : Nat × Bool × Nat × Nat := (11, false, 6, 2)
noncomputable def am_inf_1_2_2_1 (q : Nat) : Nat × Bool × Nat × Nat := (11, false, 6, 1)
noncomputable def am_inf_1_2_2_2 (q : Nat) : Nat × Bool × Nat × Nat := (11, false, 3, 1)
noncomputable def am_inf_1_2_2_3 (q : Nat) : Nat × Bool × Nat × Nat := bif Nat.blt q 147 then ((11, false, 3, 1)) else ((11, false, 2, 1))
noncomputable def am_inf_1_2_2 (q : Nat) : Nat × Bool × Nat × Nat := bif Nat.blt q 145 then (bif Nat.blt q 144 then (am_inf_1_2_2_0 q) else (am_inf_1_2_2_1 q)) else (bif Nat.blt q 146 then (am_inf_1_2_2_2 q) else (am_inf_1_2_2_3 q))
noncomputable def am_inf_1_2_3_0 (q : Nat) : Nat × Bool × Nat × Nat := (11, false, 2, 1)
noncomputable def am_inf_1_2_3_1 (q : Nat) : Nat × Bool × Nat × Nat := bif Nat.blt q 150 then ((11, false, 3, 1)) else ((11, false, 4, 1))
noncomputable def am_inf_1_2_3_2 (q : Nat) : Nat × Bool × Nat × Nat := (11, false, 3, 1)
noncomputable def am_inf_1_2_3_3 (q : Nat) : Nat × Bool × Nat × Nat := bif Nat.blt q 153 then ((11, false, 3, 1)) else ((11, false, 3, 1))
noncomputable def am_inf_1_2_3 (q : Nat) : Nat × Bool × Nat × Nat := bif Nat.blt q 151 then (bif Nat.blt q 149 then (am_inf_1_2_3_0 q) else (am_inf_1_2_3_1 q)) else (bif Nat.blt q 152 then (am_inf_1_2_3_2 q) else (am_inf_1_2_3_3 q))
noncomputable def am_inf_1_2 (q : Nat) : Nat × Bool × Nat × Nat := bif Nat.blt q 143 then (bif Nat.blt q 137 then (am_inf_1_2_0 q) else (am_inf_1_2_1 q)) else (bif Nat.blt q 148 then (am_inf_1_2_2 q) else (am_inf_1_2_3 q))
noncomputable def am_inf_1_3_0_0 (q : Nat) : Nat × Bool × Nat × Nat := (11, false, 1, 1)
noncomputable def am_inf_1_3_0_1 (q : Nat) : Nat × Bool × Nat × Nat := (11, false, 1, 1)
noncomputable def am_inf_1_3_0_2 (q : Nat) : Nat × Bool × Nat × Nat := (11, false, 3, 2)
noncomputable def am_inf_1_3_0_3 (q : Nat) : Nat × Bool × Nat × Nat := bif Nat.blt q 158 then ((11, false, 5, 1)) else ((11, false, 2, 1))
noncomputable def am_inf_1_3_0 (q : Nat) : Nat × Bool × Nat × Nat := bif Nat.blt q 156 then (bif Nat.blt q 155 then (am_inf_1_3_0_0 q) else (am_inf_1_3_0_1 q)) else (bif Nat.blt q 157 then (am_inf_1_3_0_2 q) else (am_inf_1_3_0_3 q))
noncomputable def am_inf_1_3_1_0 (q : Nat) : Nat × Bool × Nat × Nat := (11, false, 1, 1)
noncomputable def am_inf_1_3_1_1 (q : Nat) : Nat × Bool × Nat × Nat := bif Nat.blt q 161 then ((11, false, 2, 1)) else ((11, false, 3, 2))
noncomputable def am_inf_1_3_1_2 (q : Nat) : Nat × Bool × Nat × Nat := (11, false, 2, 2)
noncomputable def am_inf_1_3_1_3 (q : Nat) : Nat × Bool × Nat × Nat := bif Nat.blt q 164 then ((11, false, 2, 2)) else ((11, false, 3, 2))
noncomputable def am_inf_1_3_1 (q : Nat) : Nat × Bool × Nat × Nat := bif Nat.blt q 162 then (bif Nat.blt q 160 then (am_inf_1_3_1_0 q) else (am_inf_1_3_1_1 q)) else (bif Nat.blt q 163 then (am_inf_1_3_1_2 q) else (am_inf_1_3_1_3 q))
noncomputable def am_inf_1_3_2_0 (q : Nat) : Nat × Bool × Nat × Nat := (11, false, 3, 2)
noncomputable def am_inf_1_3_2_1 (q : Nat) : Nat × Bool × Nat × Nat := bif Nat.blt q 167 then ((11, false, 3, 2)) else ((11, false, 3, 1))
noncomputable def am_inf_1_3_2_2 (q : Nat) : Nat × Bool × Nat × Nat := (11, false, 2, 1)
noncomputable def am_inf_1_3_2_3 (q : Nat) : Nat × Bool × Nat × Nat := bif Nat.blt q 170 then ((11, false, 3, 1)) else ((11, false, 5, 1))
noncomputable def am_inf_1_3_2 (q : Nat) : Nat × Bool × Nat × Nat := bif Nat.blt q 168 then (bif Nat.blt q 166 then (am_inf_1_3_2_0 q) else (am_inf_1_3_2_1 q)) else (bif Nat.blt q 169 then (am_inf_1_3_2_2 q) else (am_inf_1_3_2_3 q))
noncomputable def am_inf_1_3_3_0 (q : Nat) : Nat × Bool × Nat × Nat := (11, false, 3, 1)
noncomputable def am_inf_1_3_3_1 (q : Nat) : Nat × Bool × Nat × Nat := bif Nat.blt q 173 then ((11, false, 5, 1)) else ((11, false, 4, 1))
noncomputable def am_inf_1_3_3_2 (q : Nat) : Nat × Bool × Nat × Nat := (11, false, 1, 1)
noncomputable def am_inf_1_3_3_3 (q : Nat) : Nat × Bool × Nat × Nat := bif Nat.blt q 176 then ((11, false, 4, 1)) else ((11, false, 2, 1))
noncomputable def am_inf_1_3_3 (q : Nat) : Nat × Bool × Nat × Nat := bif Nat.blt q 174 then (bif Nat.blt q 172 then (am_inf_1_3_3_0 q) else (am_inf_1_3_3_1 q)) else (bif Nat.blt q 175 then (am_inf_1_3_3_2 q) else (am_inf_1_3_3_3 q))
noncomputable def am_inf_1_3 (q : Nat) : Nat × Bool × Nat × Nat := bif Nat.blt q 165 then (bif Nat.blt q 159 then (am_inf_1_3_0 q) else (am_inf_1_3_1 q)) else (bif Nat.blt q 171 then (am_inf_1_3_2 q) else (am_inf_1_3_3 q))
noncomputable def am_inf_1 (q : Nat) : Nat × Bool × Nat × Nat := bif Nat.blt q 132 then (bif Nat.blt q 110 then (am_inf_1_0 q) else (am_inf_1_1 q)) else (bif Nat.blt q 154 then (am_inf_1_2 q) else (am_inf_1_3 q))
noncomputable def am_inf_2_0_0_0 (q : Nat) : Nat × Bool × Nat × Nat := (11, false, 2, 1)
noncomputable def am_inf_2_0_0_1 (q : Nat) : Nat × Bool × Nat × Nat := (11, false, 2, 1)
noncomputable def am_inf_2_0_0_2 (q : Nat) : Nat × Bool × Nat × Nat := (11, false, 3, 1)
noncomputable def am_inf_2_0_0_3 (q : Nat) : Nat × Bool × Nat × Nat := bif Nat.blt q 181 then ((11, false, 4, 1)) else ((11, false, 3, 1))
noncomputable def am_inf_2_0_0 (q : Nat) : Nat × Bool × Nat × Nat := bif Nat.blt q 179 then (bif Nat.blt q 178 then (am_inf_2_0_0_0 q) else (am_inf_2_0_0_1 q)) else (bif Nat.blt q 180 then (am_inf_2_0_0_2 q) else (am_inf_2_0_0_3 q))
noncomputable def am_inf_2_0_1_0 (q : Nat) : Nat × Bool × Nat × Nat := (11, false, 1, 1)
noncomputable def am_inf_2_0_1_1 (q : Nat) : Nat × Bool × Nat × Nat := bif Nat.blt q 184 then ((11, false, 4, 1)) else ((11, false, 4, 1))
noncomputable def am_inf_2_0_1_2 (q : Nat) : Nat × Bool × Nat × Nat := (11, false, 5, 1)
noncomputable def am_inf_2_0_1_3 (q : Nat) : Nat × Bool × Nat × Nat := bif Nat.blt q 187 then ((11, false, 4, 3)) else ((11, false, 3, 1))
noncomputable def am_inf_2_0_1 (q : Nat) : Nat × Bool × Nat × Nat := bif Nat.blt q 185 then (bif Nat.blt q 183 then (am_inf_2_0_1_0 q) else (am_inf_2_0_1_1 q)) else (bif Nat.blt q 186 then (am_inf_2_0_1_2 q) else (am_inf_2_0_1_3 q))
noncomputable def am_inf_2_0_2_0 (q : Nat) : Nat × Bool × Nat × Nat := (11, false, 2, 1)
noncomputable def am_inf_2_0_2_1 (q : Nat) : Nat × Bool × Nat × Nat := (11, false, 8, 1)
noncomputable def am_inf_2_0_2_2 (q : Nat) : Nat × Bool × Nat × Nat := (11, false, 10, 1)
noncomputable def am_inf_2_0_2_3 (q : Nat) : Nat × Bool × Nat × Nat := bif Nat.blt q 192 then ((11, false, 2, 1)) else ((11, false, 2, 1))
noncomputable def am_inf_2_0_2 (q : Nat) : Nat × Bool × Nat × Nat := bif Nat.blt q 190 then (bif Nat.blt q 189 then (am_inf_2_0_2_0 q) else (am_inf_2_0_2_1 q)) else (bif Nat.blt q 191 then (am_inf_2_0_2_2 q) else (am_inf_2_0_2_3 q))
noncomputable def am_inf_2_0_3_0 (q : Nat) : Nat × Bool × Nat × Nat := (11, false, 6, 2)
noncomputable def am_inf_2_0_3_1 (q : Nat) : Nat × Bool × Nat × Nat := bif Nat.blt q 195 then ((11, false, 1, 1)) else ((11, false, 1, 1))
noncomputable def am_inf_2_0_3_2 (q : Nat) : Nat × Bool × Nat × Nat := (12, true, 2, 0)
noncomputable def am_inf_2_0_3_3 (q : Nat) : Nat × Bool × Nat × Nat := bif Nat.blt q 198 then ((12, false, 1, 1)) else ((12, false, 1, 3))
noncomputable def am_inf_2_0_3 (q : Nat) : Nat × Bool × Nat × Nat := bif Nat.blt q 196 then (bif Nat.blt q 194 then (am_inf_2_0_3_0 q) else (am_inf_2_0_3_1 q)) else (bif Nat.blt q 197 then (am_inf_2_0_3_2 q) else (am_inf_2_0_3_3 q))
noncomputable def am_inf_2_0 (q : Nat) : Nat × Bool × Nat × Nat := bif Nat.blt q 188 then (bif Nat.blt q 182 then (am_inf_2_0_0 q) else (am_inf_2_0_1 q)) else (bif Nat.blt q 193 then (am_inf_2_0_2 q) else (am_inf_2_0_3 q))
noncomputable def am_inf_2_1_0_0 (q : Nat) : Nat × Bool × Nat × Nat := (12, false, 1, 3)
noncomputable def am_inf_2_1_0_1 (q : Nat) : Nat × Bool × Nat × Nat := (12, false, 2, 1)
noncomputable def am_inf_2_1_0_2 (q : Nat) : Nat × Bool × Nat × Nat := (12, false, 2, 2)
noncomputable def am_inf_2_1_0_3 (q : Nat) : Nat × Bool × Nat × Nat := bif Nat.blt q 203 then ((12, false, 6, 2)) else ((12, false, 11, 2))
noncomputable def am_inf_2_1_0 (q : Nat) : Nat × Bool × Nat × Nat := bif Nat.blt q 201 then (bif Nat.blt q 200 then (am_inf_2_1_0_0 q) else (am_inf_2_1_0_1 q)) else (bif Nat.blt q 202 then (am_inf_2_1_0_2 q) else (am_inf_2_1_0_3 q))
noncomputable def am_inf_2_1_1_0 (q : Nat) : Nat × Bool × Nat × Nat := (12, false, 3, 3)
noncomputable def am_inf_2_1_1_1 (q : Nat) : Nat × Bool × Nat × Nat := bif Nat.blt q 206 then ((12, false, 5, 2)) else ((12, false, 2, 1))
noncomputable def am_inf_2_1_1_2 (q : Nat) : Nat × Bool × Nat × Nat := (12, false, 4, 1)
noncomputable def am_inf_2_1_1_3 (q : Nat) : Nat × Bool × Nat × Nat := bif Nat.blt q 209 then ((12, false, 5, 2)) else ((12, false, 3, 3))
noncomputable def am_inf_2_1_1 (q : Nat) : Nat × Bool × Nat × Nat := bif Nat.blt q 207 then (bif Nat.blt q 205 then (am_inf_2_1_1_0 q) else (am_inf_2_1_1_1 q)) else (bif Nat.blt q 208 then (am_inf_2_1_1_2 q) else (am_inf_2_1_1_3 q))
noncomputable def am_inf_2_1_2_0 (q : Nat) : Nat × Bool × Nat × Nat := (12, false, 9, 2)
noncomputable def am_inf_2_1_2_1 (q : Nat) : Nat × Bool × Nat × Nat := (12, false, 3, 3)
noncomputable def am_inf_2_1_2_2 (q : Nat) : Nat × Bool × Nat × Nat := (12, false, 2, 2)
noncomputable def am_inf_2_1_2_3 (q : Nat) : Nat × Bool × Nat × Nat := bif Nat.blt q 214 then ((12, false, 2, 2)) else ((12, false, 3, 1))
noncomputable def am_inf_2_1_2 (q : Nat) : Nat × Bool × Nat × Nat := bif Nat.blt q 212 then (bif Nat.blt q 211 then (am_inf_2_1_2_0 q) else (am_inf_2_1_2_1 q)) else (bif Nat.blt q 213 then (am_inf_2_1_2_2 q) else (am_inf_2_1_2_3 q))
noncomputable def am_inf_2_1_3_0 (q : Nat) : Nat × Bool × Nat × Nat := (12, false, 2, 1)
noncomputable def am_inf_2_1_3_1 (q : Nat) : Nat × Bool × Nat × Nat := bif Nat.blt q 217 then ((12, false, 1, 2)) else ((12, false, 1, 2))
noncomputable def am_inf_2_1_3_2 (q : Nat) : Nat × Bool × Nat × Nat := (12, false, 2, 2)
noncomputable def am_inf_2_1_3_3 (q : Nat) : Nat × Bool × Nat × Nat := bif Nat.blt q 220 then ((12, false, 2, 0)) else ((12, false, 2, 2))
noncomputable def am_inf_2_1_3 (q : Nat) : Nat × Bool × Nat × Nat := bif Nat.blt q 218 then (bif Nat.blt q 216 then (am_inf_2_1_3_0 q) else (am_inf_2_1_3_1 q)) else (bif Nat.blt q 219 then (am_inf_2_1_3_2 q) else (am_inf_2_1_3_3 q))
noncomputable def am_inf_2_1 (q : Nat) : Nat × Bool × Nat × Nat := bif Nat.blt q 210 then (bif Nat.blt q 204 then (am_inf_2_1_0 q) else (am_inf_2_1_1 q)) else (bif Nat.blt q 215 then (am_inf_2_1_2 q) else (am_inf_2_1_3 q))
noncomputable def am_inf_2_2_0_0 (q : Nat) : Nat × Bool × Nat × Nat := (12, false, 8, 3)
noncomputable def am_inf_2_2_0_1 (q : Nat) : Nat × Bool × Nat × Nat := (12, false, 3, 2)
noncomputable def am_inf_2_2_0_2 (q : Nat) : Nat × Bool × Nat × Nat := (12, false, 1, 2)
noncomputable def am_inf_2_2_0_3 (q : Nat) : Nat × Bool × Nat × Nat := bif Nat.blt q 225 then ((12, false, 1, 2)) else ((12, false, 1, 2))
noncomputable def am_inf_2_2_0 (q : Nat) : Nat × Bool × Nat × Nat := bif Nat.blt q 223 then (bif Nat.blt q 222 then (am_inf_2_2_0_0 q) else (am_inf_2_2_0_1 q)) else (bif Nat.blt q 224 then (am_inf_2_2_0_2 q) else (am_inf_2_2_0_3 q))
noncomputable def am_inf_2_2_1_0 (q : Nat) : Nat × Bool × Nat × Nat := (12, false, 1, 2)
noncomputable def am_inf_2_2_1_1 (q : Nat) : Nat × Bool × Nat × Nat := bif Nat.blt q 228 then ((12, false, 1, 2)) else ((12, false, 1, 2))
noncomputable def am_inf_2_2_1_2 (q : Nat) : Nat × Bool × Nat × Nat := (12, false, 1, 2)
noncomputable def am_inf_2_2_1_3 (q : Nat) : Nat × Bool × Nat × Nat := bif Nat.blt q 231 then ((12, false, 1, 2)) else ((12, false, 1, 2))
noncomputable def am_inf_2_2_1 (q : Nat) : Nat × Bool × Nat × Nat := bif Nat.blt q 229 then (bif Nat.blt q 227 then (am_inf_2_2_1_0 q) else (am_inf_2_2_1_1 q)) else (bif Nat.blt q 230 then (am_inf_2_2_1_2 q) else (am_inf_2_2_1_3 q))
noncomputable def am_inf_2_2_2_0 (q : Nat) : Nat × Bool × Nat × Nat := (12, false, 1, 2)
noncomputable def am_inf_2_2_2_1 (q : Nat) : Nat × Bool × Nat × Nat := (12, false, 1, 2)
noncomputable def am_inf_2_2_2_2 (q : Nat) : Nat × Bool × Nat × Nat := (12, false, 1, 2)
noncomputable def am_inf_2_2_2_3 (q : Nat) : Nat × Bool × Nat × Nat := bif Nat.blt q 236 then ((12, false, 1, 2)) else ((12, false, 1, 2))
noncomputable def am_inf_2_2_2 (q : Nat) : Nat × Bool × Nat × Nat := bif Nat.blt q 234 then (bif Nat.blt q 233 then (am_inf_2_2_2_0 q) else (am_inf_2_2_2_1 q)) else (bif Nat.blt q 235 then (am_inf_2_2_2_2 q) else (am_inf_2_2_2_3 q))
noncomputable def am_inf_2_2_3_0 (q : Nat) : Nat × Bool × Nat × Nat := (12, false, 1, 1)
noncomputable def am_inf_2_2_3_1 (q : Nat) : Nat × Bool × Nat × Nat := bif Nat.blt q 239 then ((12, false, 1, 1)) else ((12, false, 1, 1))
noncomputable def am_inf_2_2_3_2 (q : Nat) : Nat × Bool × Nat × Nat := (12, false, 1, 2)
noncomputable def am_inf_2_2_3_3 (q : Nat) : Nat × Bool × Nat × Nat := bif Nat.blt q 242 then ((12, false, 1, 2)) else ((12, false, 1, 2))
noncomputable def am_inf_2_2_3 (q : Nat) : Nat × Bool × Nat × Nat := bif Nat.blt q 240 then (bif Nat.blt q 238 then (am_inf_2_2_3_0 q) else (am_inf_2_2_3_1 q)) else (bif Nat.blt q 241 then (am_inf_2_2_3_2 q) else (am_inf_2_2_3_3 q))
noncomputable def am_inf_2_2 (q : Nat) : Nat × Bool × Nat × Nat := bif Nat.blt q 232 then (bif Nat.blt q 226 then (am_inf_2_2_0 q) else (am_inf_2_2_1 q)) else (bif Nat.blt q 237 then (am_inf_2_2_2 q) else (am_inf_2_2_3 q))
noncomputable def am_inf_2_3_0_0 (q : Nat) : Nat × Bool × Nat × Nat := (12, false, 3, 0)
noncomputable def am_inf_2_3_0_1 (q : Nat) : Nat × Bool × Nat × Nat := (12, false, 1, 0)
noncomputable def am_inf_2_3_0_2 (q : Nat) : Nat × Bool × Nat × Nat := (12, false, 2, 0)
noncomputable def am_inf_2_3_0_3 (q : Nat) : Nat × Bool × Nat × Nat := bif Nat.blt q 247 then ((12, false, 4, 1)) else ((12, false, 4, 1))
noncomputable def am_inf_2_3_0 (q : Nat) : Nat × Bool × Nat × Nat := bif Nat.blt q 245 then (bif Nat.blt q 244 then (am_inf_2_3_0_0 q) else (am_inf_2_3_0_1 q)) else (bif Nat.blt q 246 then (am_inf_2_3_0_2 q) else (am_inf_2_3_0_3 q))
noncomputable def am_inf_2_3_1_0 (q : Nat) : Nat × Bool × Nat × Nat := (12, false, 6, 1)
noncomputable def am_inf_2_3_1_1 (q : Nat) : Nat × Bool × Nat × Nat := bif Nat.blt q 250 then ((12, false, 3, 0)) else ((12, false, 3, 2))
noncomputable def am_inf_2_3_1_2 (q : Nat) : Nat × Bool × Nat × Nat := (12, false, 1, 2)
noncomputable def am_inf_2_3_1_3 (q : Nat) : Nat × Bool × Nat × Nat := bif Nat.blt q 253 then ((12, false, 2, 1)) else ((12, false, 4, 1))
noncomputable def am_inf_2_3_1 (q : Nat) : Nat × Bool × Nat × Nat := bif Nat.blt q 251 then (bif Nat.blt q 249 then (am_inf_2_3_1_0 q) else (am_inf_2_3_1_1 q)) else (bif Nat.blt q 252 then (am_inf_2_3_1_2 q) else (am_inf_2_3_1_3 q))
noncomputable def am_inf_2_3_2_0 (q : Nat) : Nat × Bool × Nat × Nat := (12, false, 3, 1)
noncomputable def am_inf_2_3_2_1 (q : Nat) : Nat × Bool × Nat × Nat := bif Nat.blt q 256 then ((12, false, 4, 1)) else ((12, false, 4, 0))
noncomputable def am_inf_2_3_2_2 (q : Nat) : Nat × Bool × Nat × Nat := (12, false, 2, 0)
noncomputable def am_inf_2_3_2_3 (q : Nat) : Nat × Bool × Nat × Nat := bif Nat.blt q 259 then ((12, false, 2, 0)) else ((12, false, 2, 0))
noncomputable def am_inf_2_3_2 (q : Nat) : Nat × Bool × Nat × Nat := bif Nat.blt q 257 then (bif Nat.blt q 255 then (am_inf_2_3_2_0 q) else (am_inf_2_3_2_1 q)) else (bif Nat.blt q 258 then (am_inf_2_3_2_2 q) else (am_inf_2_3_2_3 q))
noncomputable def am_inf_2_3_3_0 (q : Nat) : Nat × Bool × Nat × Nat := (12, false, 2, 0)
noncomputable def am_inf_2_3_3_1 (q : Nat) : Nat × Bool × Nat × Nat := bif Nat.blt q 262 then ((12, false, 3, 1)) else ((12, false, 3, 0))
noncomputable def am_inf_2_3_3_2 (q : Nat) : Nat × Bool × Nat × Nat := (12, false, 3, 0)
noncomputable def am_inf_2_3_3_3 (q : Nat) : Nat × Bool × Nat × Nat := bif Nat.blt q 265 then ((12, false, 5, 0)) else ((12, false, 3, 1))
noncomputable def am_inf_2_3_3 (q : Nat) : Nat × Bool × Nat × Nat := bif Nat.blt q 263 then (bif Nat.blt q 261 then (am_inf_2_3_3_0 q) else (am_inf_2_3_3_1 q)) else (bif Nat.blt q 264 then (am_inf_2_3_3_2 q) else (am_inf_2_3_3_3 q))
noncomputable def am_inf_2_3 (q : Nat) : Nat × Bool × Nat × Nat := bif Nat.blt q 254 then (bif Nat.blt q 248 then (am_inf_2_3_0 q) else (am_inf_2_3_1 q)) else (bif Nat.blt q 260 then (am_inf_2_3_2 q) else (am_inf_2_3_3 q))
noncomputable def am_inf_2 (q : Nat) : Nat × Bool × Nat × Nat := bif Nat.blt q 221 then (bif Nat.blt q 199 then (am_inf_2_0 q) else (am_inf_2_1 q)) else (bif Nat.blt q 243 then (am_inf_2_2 q) else (am_inf_2_3 q))
noncomputable def am_inf_3_0_0_0 (q : Nat) : Nat × Bool × Nat × Nat := (12, false, 2, 2)
noncomputable def am_inf_3_0_0_1 (q : Nat) : Nat × Bool × Nat × Nat := (12, false, 2, 2)
noncomputable def am_inf_3_0_0_2 (q : Nat) : Nat × Bool × Nat × Nat := (12, false, 2, 2)
noncomputable def am_inf_3_0_0_3 (q : Nat) : Nat × Bool × Nat × Nat := bif Nat.blt q 270 then ((12, false, 2, 2)) else ((12, false, 3, 1))
noncomputable def am_inf_3_0_0 (q : Nat) : Nat × Bool × Nat × Nat := bif Nat.blt q 268 then (bif Nat.blt q 267 then (am_inf_3_0_0_0 q) else (am_inf_3_0_0_1 q)) else (bif Nat.blt q 269 then (am_inf_3_0_0_2 q) else (am_inf_3_0_0_3 q))
noncomputable def am_inf_3_0_1_0 (q : Nat) : Nat × Bool × Nat × Nat := (12, false, 4, 1)
noncomputable def am_inf_3_0_1_1 (q : Nat) : Nat × Bool × Nat × Nat := bif Nat.blt q 273 then ((12, false, 3, 1)) else ((12, false, 1, 1))
noncomputable def am_inf_3_0_1_2 (q : Nat) : Nat × Bool × Nat × Nat := (12, false, 2, 1)
noncomputable def am_inf_3_0_1_3 (q : Nat) : Nat × Bool × Nat × Nat := bif Nat.blt q 276 then ((12, false, 3, 1)) else ((12, false, 3, 1))
noncomputable def am_inf_3_0_1 (q : Nat) : Nat × Bool × Nat × Nat := bif Nat.blt q 274 then (bif Nat.blt q 272 then (am_inf_3_0_1_0 q) else (am_inf_3_0_1_1 q)) else (bif Nat.blt q 275 then (am_inf_3_0_1_2 q) else (am_inf_3_0_1_3 q))
noncomputable def am_inf_3_0_2_0 (q : Nat) : Nat × Bool × Nat × Nat := (12, false, 4, 1)
noncomputable def am_inf_3_0_2_1 (q : Nat) : Nat × Bool × Nat × Nat := (12, false, 3, 1)
noncomputable def am_inf_3_0_2_2 (q : Nat) : Nat × Bool × Nat × Nat := (12, false, 3, 1)
noncomputable def am_inf_3_0_2_3 (q : Nat) : Nat × Bool × Nat × Nat := bif Nat.blt q 281 then ((12, false, 1, 1)) else ((12, false, 1, 1))
noncomputable def am_inf_3_0_2 (q : Nat) : Nat × Bool × Nat × Nat := bif Nat.blt q 279 then (bif Nat.blt q 278 then (am_inf_3_0_2_0 q) else (am_inf_3_0_2_1 q)) else (bif Nat.blt q 280 then (am_inf_3_0_2_2 q) else (am_inf_3_0_2_3 q))
noncomputable def am_inf_3_0_3_0 (q : Nat) : Nat × Bool × Nat × Nat := (12, false, 1, 2)
noncomputable def am_inf_3_0_3_1 (q : Nat) : Nat × Bool × Nat × Nat := bif Nat.blt q 284 then ((12, false, 5, 1)) else ((12, false, 3, 1))
noncomputable def am_inf_3_0_3_2 (q : Nat) : Nat × Bool × Nat × Nat := (12, false, 5, 0)
noncomputable def am_inf_3_0_3_3 (q : Nat) : Nat × Bool × Nat × Nat := bif Nat.blt q 287 then ((12, false, 2, 2)) else ((12, false, 7, 1))
noncomputable def am_inf_3_0_3 (q : Nat) : Nat × Bool × Nat × Nat := bif Nat.blt q 285 then (bif Nat.blt q 283 then (am_inf_3_0_3_0 q) else (am_inf_3_0_3_1 q)) else (bif Nat.blt q 286 then (am_inf_3_0_3_2 q) else (am_inf_3_0_3_3 q))
noncomputable def am_inf_3_0 (q : Nat) : Nat × Bool × Nat × Nat := bif Nat.blt q 277 then (bif Nat.blt q 271 then (am_inf_3_0_0 q) else (am_inf_3_0_1 q)) else (bif Nat.blt q 282 then (am_inf_3_0_2 q) else (am_inf_3_0_3 q))
noncomputable def am_inf_3_1_0_0 (q : Nat) : Nat × Bool × Nat × Nat := (12, false, 4, 1)
noncomputable def am_inf_3_1_0_1 (q : Nat) : Nat × Bool × Nat × Nat := (12, false, 7, 0)
noncomputable def am_inf_3_1_0_2 (q : Nat) : Nat × Bool × Nat × Nat := (12, false, 7, 0)
noncomputable def am_inf_3_1_0_3 (q : Nat) : Nat × Bool × Nat × Nat := bif Nat.blt q 292 then ((12, false, 6, 1)) else ((12, false, 6, 1))
noncomputable def am_inf_3_1_0 (q : Nat) : Nat × Bool × Nat × Nat := bif Nat.blt q 290 then (bif Nat.blt q 289 then (am_inf_3_1_0_0 q) else (am_inf_3_1_0_1 q)) else (bif Nat.blt q 291 then (am_inf_3_1_0_2 q) else (am_inf_3_1_0_3 q))
noncomputable def am_inf_3_1_1_0 (q : Nat) : Nat × Bool × Nat × Nat := (12, false, 5, 1)
noncomputable def am_inf_3_1_1_1 (q : Nat) : Nat × Bool × Nat × Nat := bif Nat.blt q 295 then ((12, false, 2, 1)) else ((12, false, 1, 1))
noncomputable def am_inf_3_1_1_2 (q : Nat) : Nat × Bool × Nat × Nat := (12, false, 2, 1)
noncomputable def am_inf_3_1_1_3 (q : Nat) : Nat × Bool × Nat × Nat := bif Nat.blt q 298 then ((12, false, 3, 2)) else ((12, false, 2, 2))
noncomputable def am_inf_3_1_1 (q : Nat) : Nat × Bool × Nat × Nat := bif Nat.blt q 296 then (bif Nat.blt q 294 then (am_inf_3_1_1_0 q) else (am_inf_3_1_1_1 q)) else (bif Nat.blt q 297 then (am_inf_3_1_1_2 q) else (am_inf_3_1_1_3 q))
noncomputable def am_inf_3_1_2_0 (q : Nat) : Nat × Bool × Nat × Nat := (12, false, 2, 2)
noncomputable def am_inf_3_1_2_1 (q : Nat) : Nat × Bool × Nat × Nat := (12, false, 3, 2)
noncomputable def am_inf_3_1_2_2 (q : Nat) : Nat × Bool × Nat × Nat := (12, false, 3, 2)
noncomputable def am_inf_3_1_2_3 (q : Nat) : Nat × Bool × Nat × Nat := bif Nat.blt q 303 then ((12, false, 3, 2)) else ((12, false, 2, 2))
noncomputable def am_inf_3_1_2 (q : Nat) : Nat × Bool × Nat × Nat := bif Nat.blt q 301 then (bif Nat.blt q 300 then (am_inf_3_1_2_0 q) else (am_inf_3_1_2_1 q)) else (bif Nat.blt q 302 then (am_inf_3_1_2_2 q) else (am_inf_3_1_2_3 q))
noncomputable def am_inf_3_1_3_0 (q : Nat) : Nat × Bool × Nat × Nat := (12, false, 3, 1)
noncomputable def am_inf_3_1_3_1 (q : Nat) : Nat × Bool × Nat × Nat := bif Nat.blt q 306 then ((12, false, 3, 1)) else ((12, false, 2, 1))
noncomputable def am_inf_3_1_3_2 (q : Nat) : Nat × Bool × Nat × Nat := (12, false, 7, 0)
noncomputable def am_inf_3_1_3_3 (q : Nat) : Nat × Bool × Nat × Nat := bif Nat.blt q 309 then ((12, false, 4, 1)) else ((12, false, 2, 0))
noncomputable def am_inf_3_1_3 (q : Nat) : Nat × Bool × Nat × Nat := bif Nat.blt q 307 then (bif Nat.blt q 305 then (am_inf_3_1_3_0 q) else (am_inf_3_1_3_1 q)) else (bif Nat.blt q 308 then (am_inf_3_1_3_2 q) else (am_inf_3_1_3_3 q))
noncomputable def am_inf_3_1 (q : Nat) : Nat × Bool × Nat × Nat := bif Nat.blt q 299 then (bif Nat.blt q 293 then (am_inf_3_1_0 q) else (am_inf_3_1_1 q)) else (bif Nat.blt q 304 then (am_inf_3_1_2 q) else (am_inf_3_1_3 q))
noncomputable def am_inf_3_2_0_0 (q : Nat) : Nat × Bool × Nat × Nat := (12, false, 2, 0)
noncomputable def am_inf_3_2_0_1 (q : Nat) : Nat × Bool × Nat × Nat := (12, false, 3, 1)
noncomputable def am_inf_3_2_0_2 (q : Nat) : Nat × Bool × Nat × Nat := (12, false, 8, 1)
noncomputable def am_inf_3_2_0_3 (q : Nat) : Nat × Bool × Nat × Nat := bif Nat.blt q 314 then ((12, false, 6, 0)) else ((12, false, 3, 1))
noncomputable def am_inf_3_2_0 (q : Nat) : Nat × Bool × Nat × Nat := bif Nat.blt q 312 then (bif Nat.blt q 311 then (am_inf_3_2_0_0 q) else (am_inf_3_2_0_1 q)) else (bif Nat.blt q 313 then (am_inf_3_2_0_2 q) else (am_inf_3_2_0_3 q))
noncomputable def am_inf_3_2_1_0 (q : Nat) : Nat × Bool × Nat × Nat := (12, false, 3, 1)
noncomputable def am_inf_3_2_1_1 (q : Nat) : Nat × Bool × Nat × Nat := bif Nat.blt q 317 then ((12, false, 4, 1)) else ((12, false, 7, 1))
noncomputable def am_inf_3_2_1_2 (q : Nat) : Nat × Bool × Nat × Nat := (12, false, 1, 1)
noncomputable def am_inf_3_2_1_3 (q : Nat) : Nat × Bool × Nat × Nat := bif Nat.blt q 320 then ((12, false, 8, 1)) else ((12, false, 5, 0))
noncomputable def am_inf_3_2_1 (q : Nat) : Nat × Bool × Nat × Nat := bif Nat.blt q 318 then (bif Nat.blt q 316 then (am_inf_3_2_1_0 q) else (am_inf_3_2_1_1 q)) else (bif Nat.blt q 319 then (am_inf_3_2_1_2 q) else (am_inf_3_2_1_3 q))
noncomputable def am_inf_3_2_2_0 (q : Nat) : Nat × Bool × Nat × Nat := (12, false, 2, 1)
noncomputable def am_inf_3_2_2_1 (q : Nat) : Nat × Bool × Nat × Nat := (12, false, 7, 0)
noncomputable def am_inf_3_2_2_2 (q : Nat) : Nat × Bool × Nat × Nat := (12, false, 4, 1)
noncomputable def am_inf_3_2_2_3 (q : Nat) : Nat × Bool × Nat × Nat := bif Nat.blt q 325 then ((12, false, 2, 1)) else ((12, false, 6, 1))
noncomputable def am_inf_3_2_2 (q : Nat) : Nat × Bool × Nat × Nat := bif Nat.blt q 323 then (bif Nat.blt q 322 then (am_inf_3_2_2_0 q) else (am_inf_3_2_2_1 q)) else (bif Nat.blt q 324 then (am_inf_3_2_2_2 q) else (am_inf_3_2_2_3 q))
noncomputable def am_inf_3_2_3_0 (q : Nat) : Nat × Bool × Nat × Nat := (12, false, 7, 1)
noncomputable def am_inf_3_2_3_1 (q : Nat) : Nat × Bool × Nat × Nat := bif Nat.blt q 328 then ((12, false, 3, 1)) else ((12, false, 1, 1))
noncomputable def am_inf_3_2_3_2 (q : Nat) : Nat × Bool × Nat × Nat := (12, false, 3, 0)
noncomputable def am_inf_3_2_3_3 (q : Nat) : Nat × Bool × Nat × Nat := bif Nat.blt q 331 then ((12, false, 3, 0)) else ((12, false, 3, 1))
noncomputable def am_inf_3_2_3 (q : Nat) : Nat × Bool × Nat × Nat := bif Nat.blt q 329 then (bif Nat.blt q 327 then (am_inf_3_2_3_0 q) else (am_inf_3_2_3_1 q)) else (bif Nat.blt q 330 then (am_inf_3_2_3_2 q) else (am_inf_3_2_3_3 q))
noncomputable def am_inf_3_2 (q : Nat) : Nat × Bool × Nat × Nat := bif Nat.blt q 321 then (bif Nat.blt q 315 then (am_inf_3_2_0 q) else (am_inf_3_2_1 q)) else (bif Nat.blt q 326 then (am_inf_3_2_2 q) else (am_inf_3_2_3 q))
noncomputable def am_inf_3_3_0_0 (q : Nat) : Nat × Bool × Nat × Nat := (12, false, 4, 1)
noncomputable def am_inf_3_3_0_1 (q : Nat) : Nat × Bool × Nat × Nat := (12, false, 4, 1)
noncomputable def am_inf_3_3_0_2 (q : Nat) : Nat × Bool × Nat × Nat := (12, false, 6, 3)
noncomputable def am_inf_3_3_0_3 (q : Nat) : Nat × Bool × Nat × Nat := bif Nat.blt q 336 then ((12, false, 5, 1)) else ((12, false, 2, 1))
noncomputable def am_inf_3_3_0 (q : Nat) : Nat × Bool × Nat × Nat := bif Nat.blt q 334 then (bif Nat.blt q 333 then (am_inf_3_3_0_0 q) else (am_inf_3_3_0_1 q)) else (bif Nat.blt q 335 then (am_inf_3_3_0_2 q) else (am_inf_3_3_0_3 q))
noncomputable def am_inf_3_3_1_0 (q : Nat) : Nat × Bool × Nat × Nat := (12, false, 8, 2)
noncomputable def am_inf_3_3_1_1 (q : Nat) : Nat × Bool × Nat × Nat := bif Nat.blt q 339 then ((12, false, 9, 1)) else ((12, false, 2, 1))
noncomputable def am_inf_3_3_1_2 (q : Nat) : Nat × Bool × Nat × Nat := (12, false, 2, 0)
noncomputable def am_inf_3_3_1_3 (q : Nat) : Nat × Bool × Nat × Nat := bif Nat.blt q 342 then ((12, false, 2, 2)) else ((12, false, 4, 2))
noncomputable def am_inf_3_3_1 (q : Nat) : Nat × Bool × Nat × Nat := bif Nat.blt q 340 then (bif Nat.blt q 338 then (am_inf_3_3_1_0 q) else (am_inf_3_3_1_1 q)) else (bif Nat.blt q 341 then (am_inf_3_3_1_2 q) else (am_inf_3_3_1_3 q))
noncomputable def am_inf_3_3_2_0 (q : Nat) : Nat × Bool × Nat × Nat := (12, false, 4, 2)
noncomputable def am_inf_3_3_2_1 (q : Nat) : Nat × Bool × Nat × Nat := bif Nat.blt q 345 then ((12, false, 5, 0)) else ((12, false, 4, 0))
noncomputable def am_inf_3_3_2_2 (q : Nat) : Nat × Bool × Nat × Nat := (12, false, 2, 0)
noncomputable def am_inf_3_3_2_3 (q : Nat) : Nat × Bool × Nat × Nat := bif Nat.blt q 348 then ((12, false, 4, 1)) else ((12, false, 2, 1))
noncomputable def am_inf_3_3_2 (q : Nat) : Nat × Bool × Nat × Nat := bif Nat.blt q 346 then (bif Nat.blt q 344 then (am_inf_3_3_2_0 q) else (am_inf_3_3_2_1 q)) else (bif Nat.blt q 347 then (am_inf_3_3_2_2 q) else (am_inf_3_3_2_3 q))
noncomputable def am_inf_3_3_3_0 (q : Nat) : Nat × Bool × Nat × Nat := (12, false, 8, 2)
noncomputable def am_inf_3_3_3_1 (q : Nat) : Nat × Bool × Nat × Nat := bif Nat.blt q 351 then ((12, false, 4, 0)) else ((12, false, 1, 1))
noncomputable def am_inf_3_3_3_2 (q : Nat) : Nat × Bool × Nat × Nat := (12, false, 1, 1)
noncomputable def am_inf_3_3_3_3 (q : Nat) : Nat × Bool × Nat × Nat := bif Nat.blt q 354 then ((14, false, 1, 1)) else ((13, false, 4, 2))
noncomputable def am_inf_3_3_3 (q : Nat) : Nat × Bool × Nat × Nat := bif Nat.blt q 352 then (bif Nat.blt q 350 then (am_inf_3_3_3_0 q) else (am_inf_3_3_3_1 q)) else (bif Nat.blt q 353 then (am_inf_3_3_3_2 q) else (am_inf_3_3_3_3 q))
noncomputable def am_inf_3_3 (q : Nat) : Nat × Bool × Nat × Nat := bif Nat.blt q 343 then (bif Nat.blt q 337 then (am_inf_3_3_0 q) else (am_inf_3_3_1 q)) else (bif Nat.blt q 349 then (am_inf_3_3_2 q) else (am_inf_3_3_3 q))
noncomputable def am_inf_3 (q : Nat) : Nat × Bool × Nat × Nat := bif Nat.blt q 310 then (bif Nat.blt q 288 then (am_inf_3_0 q) else (am_inf_3_1 q)) else (bif Nat.blt q 332 then (am_inf_3_2 q) else (am_inf_3_3 q))
noncomputable def am_inf (q : Nat) : Nat × Bool × Nat × Nat := bif Nat.blt q 177 then (bif Nat.blt q 88 then (am_inf_0 q) else (am_inf_1 q)) else (bif Nat.blt q 266 then (am_inf_2 q) else (am_inf_3 q))
def am_mt : List (MethodName × ByteArray) := [
  (⟨RX0, "<init>", "()V"⟩, prog_2_method_1_code),
  (⟨RX0, "begin", "(JI)V"⟩, prog_2_method_2_code),
  (⟨RX0, "copyFrom", "(LLastLayer$Catcher;)V"⟩, prog_2_method_3_code),
  (⟨RX0, "isTired", "()Z"⟩, prog_2_method_4_code),
  (⟨RX0, "seize", "(II)I"⟩, prog_2_method_5_code),
  (⟨RX1, "<init>", "()V"⟩, prog_3_method_1_code),
  (⟨RX1, "clear", "()V"⟩, prog_3_method_2_code),
  (⟨RX1, "copyFrom", "(LLastLayer$Days;)V"⟩, prog_3_method_3_code),
  (⟨RX2, "<init>", "(LLastLayer$Tape;LLastLayer$Yard;)V"⟩, prog_4_method_1_code),
  (⟨RX2, "readText", "(I)Z"⟩, prog_4_method_2_code),
  (⟨RX2, "readEnd", "()Z"⟩, prog_4_method_3_code),
  (⟨RX2, "readStep", "()Z"⟩, prog_4_method_4_code),
  (⟨RX2, "isStep", "(I)Z"⟩, prog_4_method_5_code),
  (⟨RX2, "readRest", "(II)Z"⟩, prog_4_method_6_code),
  (⟨RX2, "readThing", "(II)Z"⟩, prog_4_method_7_code),
  (⟨RX2, "readNumber", "(III)Z"⟩, prog_4_method_8_code),
  (⟨RX2, "readMove", "(I)Z"⟩, prog_4_method_9_code),
  (⟨RX2, "readTest", "(I)Z"⟩, prog_4_method_10_code),
  (⟨RX3, "<init>", "()V"⟩, prog_5_method_1_code),
  (⟨RX3, "goThrough", "(LLastLayer$Yard;LLastLayer$Days;I)V"⟩, prog_5_method_2_code),
  (⟨RX3, "leaveBlocks", "(LLastLayer$Days;I)I"⟩, prog_5_method_3_code),
  (⟨RX3, "enterBlock", "(LLastLayer$Days;II)I"⟩, prog_5_method_4_code),
  (⟨RX3, "doStep", "(LLastLayer$Yard;LLastLayer$Days;I)I"⟩, prog_5_method_5_code),
  (⟨RX3, "missUnless", "(Z)V"⟩, prog_5_method_6_code),
  (⟨RX3, "ratsOf", "(LLastLayer$Yard;I)I"⟩, prog_5_method_7_code),
  (⟨RX3, "holds", "(III)Z"⟩, prog_5_method_8_code),
  (⟨RX3, "threshLayer", "(LLastLayer$Yard;)Z"⟩, prog_5_method_9_code),
  (⟨RX3, "threshLast", "(LLastLayer$Yard;I)Z"⟩, prog_5_method_10_code),
  (⟨RX3, "blow", "(LLastLayer$Yard;)V"⟩, prog_5_method_11_code),
  (⟨RX3, "draw", "(I)I"⟩, prog_5_method_12_code),
  (⟨RX4, "<init>", "()V"⟩, prog_6_method_1_code),
  (⟨RX4, "begin", "(JI)V"⟩, prog_6_method_2_code),
  (⟨RX4, "addLayer", "(I)V"⟩, prog_6_method_3_code),
  (⟨RX4, "copyFrom", "(LLastLayer$Rick;)V"⟩, prog_6_method_4_code),
  (⟨RX4, "layersLeft", "()I"⟩, prog_6_method_5_code),
  (⟨RX4, "ratsIn", "(I)I"⟩, prog_6_method_6_code),
  (⟨RX4, "ratsInAll", "()I"⟩, prog_6_method_7_code),
  (⟨RX4, "dropUpper", "()I"⟩, prog_6_method_8_code),
  (⟨RX4, "strip", "()I"⟩, prog_6_method_9_code),
  (⟨RX4, "turnBack", "(I)V"⟩, prog_6_method_10_code),
  (⟨RX4, "takeIn", "(I)V"⟩, prog_6_method_11_code),
  (⟨RX4, "grow", "(I)I"⟩, prog_6_method_12_code),
  (⟨RX4, "runsSo", "(ILLastLayer$Tray;I)Z"⟩, prog_6_method_13_code),
  (⟨RX5, "<init>", "()V"⟩, prog_7_method_1_code),
  (⟨RX5, "begin", "(JI)V"⟩, prog_7_method_2_code),
  (⟨RX5, "copyFrom", "(LLastLayer$Side;)V"⟩, prog_7_method_3_code),
  (⟨RX6, "<init>", "()V"⟩, prog_8_method_1_code),
  (⟨RX6, "hasRoom", "()Z"⟩, prog_8_method_2_code),
  (⟨RX6, "addFour", "(I)V"⟩, prog_8_method_3_code),
  (⟨RX6, "begin", "(I)V"⟩, prog_8_method_4_code),
  (⟨RX6, "byteAt", "(I)I"⟩, prog_8_method_5_code),
  (⟨RX6, "isLetter", "(I)Z"⟩, prog_8_method_6_code),
  (⟨RX6, "isDigit", "(I)Z"⟩, prog_8_method_7_code),
  (⟨RX6, "keep", "(IIJ)V"⟩, prog_8_method_8_code),
  (⟨RX6, "cutToken", "()Z"⟩, prog_8_method_9_code),
  (⟨RX6, "cutWord", "()Z"⟩, prog_8_method_10_code),
  (⟨RX6, "wordNumber", "(I)I"⟩, prog_8_method_11_code),
  (⟨RX6, "cutNumber", "()Z"⟩, prog_8_method_12_code),
  (⟨RX6, "advance", "()V"⟩, prog_8_method_13_code),
  (⟨RX6, "refuse", "(I)Z"⟩, prog_8_method_14_code),
  (⟨RX6, "passWord", "(I)Z"⟩, prog_8_method_15_code),
  (⟨RX6, "passSign", "(I)Z"⟩, prog_8_method_16_code),
  (⟨RX6, "isBetween", "(II)Z"⟩, prog_8_method_17_code),
  (⟨RX6, "passNumber", "(II)I"⟩, prog_8_method_18_code),
  (⟨RX6, "passName", "(I)I"⟩, prog_8_method_19_code),
  (⟨RX7, "<init>", "()V"⟩, prog_9_method_1_code),
  (⟨RX7, "isMissing", "()Z"⟩, prog_9_method_2_code),
  (⟨RX7, "make", "(II)V"⟩, prog_9_method_3_code),
  (⟨RX7, "hasPlace", "(I)Z"⟩, prog_9_method_4_code),
  (⟨RX7, "hasPlaces", "(II)Z"⟩, prog_9_method_5_code),
  (⟨RX7, "put", "(IJ)V"⟩, prog_9_method_6_code),
  (⟨RX7, "numberAt", "(I)J"⟩, prog_9_method_7_code),
  (⟨RX7, "pourInto", "(LLastLayer$Tray;III)V"⟩, prog_9_method_8_code),
  (⟨RX8, "<init>", "()V"⟩, prog_10_method_1_code),
  (⟨RX8, "findNets", "(LLastLayer$Yard;II)I"⟩, prog_10_method_2_code),
  (⟨RX8, "writeDigits", "(III)V"⟩, prog_10_method_3_code),
  (⟨RX8, "power", "(II)I"⟩, prog_10_method_4_code),
  (⟨RX8, "findPlaces", "(LLastLayer$Yard;II)I"⟩, prog_10_method_5_code),
  (⟨RX8, "ricksLeft", "(LLastLayer$Yard;)I"⟩, prog_10_method_6_code),
  (⟨RX8, "isOrder", "(LLastLayer$Yard;I)Z"⟩, prog_10_method_7_code),
  (⟨RX8, "findOrder", "(LLastLayer$Yard;I)I"⟩, prog_10_method_8_code),
  (⟨RX8, "findParts", "(LLastLayer$Yard;I)I"⟩, prog_10_method_9_code),
  (⟨RX8, "findDearest", "(LLastLayer$Yard;II)I"⟩, prog_10_method_10_code),
  (⟨RX8, "ratsAfter", "(LLastLayer$Yard;II)I"⟩, prog_10_method_11_code),
  (⟨RX8, "weeksTo", "(LLastLayer$Yard;II)I"⟩, prog_10_method_12_code),
  (⟨RX8, "eatenIn", "(LLastLayer$Yard;II)J"⟩, prog_10_method_13_code),
  (⟨RX8, "weeksToCost", "(LLastLayer$Yard;I)I"⟩, prog_10_method_14_code),
  (⟨RX9, "<init>", "()V"⟩, prog_11_method_1_code),
  (⟨RX9, "clear", "()V"⟩, prog_11_method_2_code),
  (⟨RX9, "copyFrom", "(LLastLayer$Yard;)V"⟩, prog_11_method_3_code),
  (⟨RX9, "hasRick", "(I)Z"⟩, prog_11_method_4_code),
  (⟨RX9, "hasSide", "(I)Z"⟩, prog_11_method_5_code),
  (⟨RX9, "hasDog", "(I)Z"⟩, prog_11_method_6_code),
  (⟨RX9, "hasBoy", "(I)Z"⟩, prog_11_method_7_code),
  (⟨RX9, "rickNamed", "(J)I"⟩, prog_11_method_8_code),
  (⟨RX9, "sideNamed", "(J)I"⟩, prog_11_method_9_code),
  (⟨RX9, "dogNamed", "(J)I"⟩, prog_11_method_10_code),
  (⟨RX9, "boyNamed", "(J)I"⟩, prog_11_method_11_code),
  (⟨RX9, "isTaken", "(J)Z"⟩, prog_11_method_12_code),
  (⟨RX9, "tailsOfAll", "()I"⟩, prog_11_method_13_code),
  (⟨RX9, "caught", "()I"⟩, prog_11_method_14_code),
  (⟨RX9, "ratsInAll", "()I"⟩, prog_11_method_15_code),
  (⟨RX9, "tiredSet", "()I"⟩, prog_11_method_16_code),
  (⟨RX9, "spread", "(I)Z"⟩, prog_11_method_17_code),
  (⟨RX9, "comeTo", "(II)I"⟩, prog_11_method_18_code),
  (⟨RX9, "driveOn", "()V"⟩, prog_11_method_19_code),
  (⟨RX9, "nextGap", "(I)I"⟩, prog_11_method_20_code),
  (⟨RX9, "rush", "(IZ)I"⟩, prog_11_method_21_code),
  (⟨RX9, "passGap", "(II)V"⟩, prog_11_method_22_code),
  (⟨RX9, "takeUp", "(I)Z"⟩, prog_11_method_23_code),
  (⟨RX9, "layersAtHand", "()I"⟩, prog_11_method_24_code),
  (⟨RX9, "setNet", "(IZ)Z"⟩, prog_11_method_25_code),
  (⟨RX9, "threshLayer", "(I)I"⟩, prog_11_method_26_code),
  (⟨RX9, "threshLast", "(II)I"⟩, prog_11_method_27_code),
  (⟨RX9, "threshWhole", "(II)V"⟩, prog_11_method_28_code),
  (⟨RX9, "breedIn", "(I)I"⟩, prog_11_method_29_code),
  (⟨RX9, "passWeeks", "(I)V"⟩, prog_11_method_30_code),
  (⟨RX10, "<init>", "(LLastLayer$Tape;)V"⟩, prog_12_method_1_code),
  (⟨RX10, "readText", "(I)Z"⟩, prog_12_method_2_code),
  (⟨RX10, "readPart", "()Z"⟩, prog_12_method_3_code),
  (⟨RX10, "passNewName", "(I)J"⟩, prog_12_method_4_code),
  (⟨RX10, "readRick", "()Z"⟩, prog_12_method_5_code),
  (⟨RX10, "readLayers", "(LLastLayer$Rick;)Z"⟩, prog_12_method_6_code),
  (⟨RX10, "readSide", "()Z"⟩, prog_12_method_7_code),
  (⟨RX10, "beginCatcher", "(LLastLayer$Catcher;I)Z"⟩, prog_12_method_8_code),
  (⟨RX10, "readDog", "()Z"⟩, prog_12_method_9_code),
  (⟨RX10, "readBoy", "()Z"⟩, prog_12_method_10_code),
  (⟨RX10, "readSum", "(I)Z"⟩, prog_12_method_11_code),
  (⟨RX11, "<init>", "()V"⟩, prog_1_method_1_code),
  (⟨RX11, "good", "(I)I"⟩, prog_1_method_2_code),
  (⟨RX11, "bad", "(I)I"⟩, prog_1_method_3_code),
  (⟨RX11, "did", "()Z"⟩, prog_1_method_4_code),
  (⟨RX11, "didNot", "(I)Z"⟩, prog_1_method_5_code),
  (⟨RX11, "isTray", "(I)Z"⟩, prog_1_method_6_code),
  (⟨RX11, "isBetween", "(III)Z"⟩, prog_1_method_7_code),
  (⟨RX11, "tellFraction", "(JJ)V"⟩, prog_1_method_8_code),
  (⟨RX11, "status", "()I"⟩, prog_1_method_9_code),
  (⟨RX11, "top", "()J"⟩, prog_1_method_10_code),
  (⟨RX11, "bottom", "()J"⟩, prog_1_method_11_code),
  (⟨RX11, "tray", "(III)Z"⟩, prog_1_method_12_code),
  (⟨RX11, "placeStatus", "(II)I"⟩, prog_1_method_13_code),
  (⟨RX11, "write", "(IIJ)Z"⟩, prog_1_method_14_code),
  (⟨RX11, "read", "(II)J"⟩, prog_1_method_15_code),
  (⟨RX11, "pour", "(IIIII)Z"⟩, prog_1_method_16_code),
  (⟨RX11, "feed", "(IIIII)I"⟩, prog_1_method_17_code),
  (⟨RX11, "yard", "(I)I"⟩, prog_1_method_18_code),
  (⟨RX11, "days", "(I)I"⟩, prog_1_method_19_code),
  (⟨RX11, "fault", "(I)I"⟩, prog_1_method_20_code),
  (⟨RX11, "many", "(I)I"⟩, prog_1_method_21_code),
  (⟨RX11, "rick", "(II)I"⟩, prog_1_method_22_code),
  (⟨RX11, "layer", "(II)I"⟩, prog_1_method_23_code),
  (⟨RX11, "side", "(II)I"⟩, prog_1_method_24_code),
  (⟨RX11, "dog", "(II)I"⟩, prog_1_method_25_code),
  (⟨RX11, "boy", "(II)I"⟩, prog_1_method_26_code),
  (⟨RX11, "netted", "()I"⟩, prog_1_method_27_code),
  (⟨RX11, "pay", "()I"⟩, prog_1_method_28_code),
  (⟨RX11, "share", "()Z"⟩, prog_1_method_29_code),
  (⟨RX11, "copyLayers", "(II)I"⟩, prog_1_method_30_code),
  (⟨RX11, "take", "(I)I"⟩, prog_1_method_31_code),
  (⟨RX11, "hour", "()I"⟩, prog_1_method_32_code),
  (⟨RX11, "last", "(I)I"⟩, prog_1_method_33_code),
  (⟨RX11, "setNet", "(IZ)Z"⟩, prog_1_method_34_code),
  (⟨RX11, "net", "(I)Z"⟩, prog_1_method_35_code),
  (⟨RX11, "gap", "(I)Z"⟩, prog_1_method_36_code),
  (⟨RX11, "move", "(II)Z"⟩, prog_1_method_37_code),
  (⟨RX11, "send", "(II)Z"⟩, prog_1_method_38_code),
  (⟨RX11, "lean", "(II)Z"⟩, prog_1_method_39_code),
  (⟨RX11, "rest", "()I"⟩, prog_1_method_40_code),
  (⟨RX11, "week", "(I)I"⟩, prog_1_method_41_code),
  (⟨RX11, "toSide", "(II)I"⟩, prog_1_method_42_code),
  (⟨RX11, "run", "(IZI)I"⟩, prog_1_method_43_code),
  (⟨RX11, "wholeStatus", "(II)I"⟩, prog_1_method_44_code),
  (⟨RX11, "whole", "(III)I"⟩, prog_1_method_45_code),
  (⟨RX11, "bestNets", "(II)I"⟩, prog_1_method_46_code),
  (⟨RX11, "netSet", "()I"⟩, prog_1_method_47_code),
  (⟨RX11, "bestPlaces", "(II)I"⟩, prog_1_method_48_code),
  (⟨RX11, "placeAt", "(I)I"⟩, prog_1_method_49_code),
  (⟨RX11, "bestOrder", "(I)I"⟩, prog_1_method_50_code),
  (⟨RX11, "orderAt", "(I)I"⟩, prog_1_method_51_code),
  (⟨RX11, "slowly", "(I)I"⟩, prog_1_method_52_code),
  (⟨RX11, "dearest", "(II)I"⟩, prog_1_method_53_code),
  (⟨RX11, "proudest", "()I"⟩, prog_1_method_54_code),
  (⟨RX11, "tired", "()I"⟩, prog_1_method_55_code),
  (⟨RX11, "rickStatus", "(III)I"⟩, prog_1_method_56_code),
  (⟨RX11, "later", "(II)I"⟩, prog_1_method_57_code),
  (⟨RX11, "backTo", "(II)I"⟩, prog_1_method_58_code),
  (⟨RX11, "eaten", "(II)J"⟩, prog_1_method_59_code),
  (⟨RX11, "capsPay", "(I)I"⟩, prog_1_method_60_code),
  (⟨RX11, "cap", "(I)I"⟩, prog_1_method_61_code),
  (⟨RX11, "tellsStatus", "(IIII)I"⟩, prog_1_method_62_code),
  (⟨RX11, "tells", "(IIII)I"⟩, prog_1_method_63_code),
  (⟨RX11, "live", "(I)I"⟩, prog_1_method_64_code),
  (⟨RX11, "lived", "(I)I"⟩, prog_1_method_65_code),
  (⟨RX11, "mean", "(II)Z"⟩, prog_1_method_66_code),
  (⟨RX11, "mark", "()I"⟩, prog_1_method_67_code),
  (⟨RX11, "back", "()I"⟩, prog_1_method_68_code),
  (⟨RX12, "<init>", "()V"⟩, prog_14_method_1_code),
  (⟨RX12, "status", "()I"⟩, prog_14_method_3_code),
  (⟨RX12, "top", "()J"⟩, prog_14_method_4_code),
  (⟨RX12, "bottom", "()J"⟩, prog_14_method_5_code),
  (⟨RX12, "refuse", "(I)I"⟩, prog_14_method_6_code),
  (⟨RX12, "no", "(I)Z"⟩, prog_14_method_7_code),
  (⟨RX12, "isIn", "(JJJ)Z"⟩, prog_14_method_8_code),
  (⟨RX12, "fraction", "(JJ)Z"⟩, prog_14_method_9_code),
  (⟨RX12, "cut", "(IJ)J"⟩, prog_14_method_10_code),
  (⟨RX12, "tray", "(III)Z"⟩, prog_14_method_11_code),
  (⟨RX12, "trayed", "(I)I"⟩, prog_14_method_12_code),
  (⟨RX12, "placed", "(II)I"⟩, prog_14_method_13_code),
  (⟨RX12, "write", "(IIJ)Z"⟩, prog_14_method_14_code),
  (⟨RX12, "read", "(II)J"⟩, prog_14_method_15_code),
  (⟨RX12, "pour", "(IIIII)Z"⟩, prog_14_method_16_code),
  (⟨RX12, "numberOf", "(II)J"⟩, prog_14_method_17_code),
  (⟨RX12, "isTray", "(I)Z"⟩, prog_14_method_18_code),
  (⟨RX12, "has", "(II)Z"⟩, prog_14_method_19_code),
  (⟨RX12, "sizeOf", "(I)I"⟩, prog_14_method_20_code),
  (⟨RX12, "look2", "(I)I"⟩, prog_14_method_21_code),
  (⟨RX12, "isLetter", "(I)Z"⟩, prog_14_method_22_code),
  (⟨RX12, "isDigit", "(I)Z"⟩, prog_14_method_23_code),
  (⟨RX12, "isSignByte", "(I)Z"⟩, prog_14_method_24_code),
  (⟨RX12, "next", "()V"⟩, prog_14_method_25_code),
  (⟨RX12, "isSign", "(I)Z"⟩, prog_14_method_26_code),
  (⟨RX12, "spelled", "(IIIIII)J"⟩, prog_14_method_27_code),
  (⟨RX12, "isWord", "(J)Z"⟩, prog_14_method_28_code),
  (⟨RX12, "isRick", "()Z"⟩, prog_14_method_29_code),
  (⟨RX12, "isHolds", "()Z"⟩, prog_14_method_30_code),
  (⟨RX12, "isLayers", "()Z"⟩, prog_14_method_31_code),
  (⟨RX12, "isCaps", "()Z"⟩, prog_14_method_32_code),
  (⟨RX12, "isSide", "()Z"⟩, prog_14_method_33_code),
  (⟨RX12, "isWeight", "()Z"⟩, prog_14_method_34_code),
  (⟨RX12, "isNet", "()Z"⟩, prog_14_method_35_code),
  (⟨RX12, "isTo", "()Z"⟩, prog_14_method_36_code),
  (⟨RX12, "isDog", "()Z"⟩, prog_14_method_37_code),
  (⟨RX12, "isAt", "()Z"⟩, prog_14_method_38_code),
  (⟨RX12, "isCatches", "()Z"⟩, prog_14_method_39_code),
  (⟨RX12, "isTires", "()Z"⟩, prog_14_method_40_code),
  (⟨RX12, "isBoy", "()Z"⟩, prog_14_method_41_code),
  (⟨RX12, "isReach", "()Z"⟩, prog_14_method_42_code),
  (⟨RX12, "tollWord", "()I"⟩, prog_14_method_43_code),
  (⟨RX12, "stepWord", "()I"⟩, prog_14_method_44_code),
  (⟨RX12, "testWord", "()I"⟩, prog_14_method_45_code),
  (⟨RX12, "isEnd", "()Z"⟩, prog_14_method_46_code),
  (⟨RX12, "isKept", "()Z"⟩, prog_14_method_47_code),
  (⟨RX12, "isName", "()Z"⟩, prog_14_method_48_code),
  (⟨RX12, "fail", "(II)V"⟩, prog_14_method_49_code),
  (⟨RX12, "wrong", "()V"⟩, prog_14_method_50_code),
  (⟨RX12, "must", "(Z)V"⟩, prog_14_method_51_code),
  (⟨RX12, "count", "(II)I"⟩, prog_14_method_52_code),
  (⟨RX12, "behindWord", "(ZII)I"⟩, prog_14_method_53_code),
  (⟨RX12, "feed", "(IIIII)I"⟩, prog_14_method_54_code),
  (⟨RX12, "lay", "(I)V"⟩, prog_14_method_55_code),
  (⟨RX12, "starts", "(II)Z"⟩, prog_14_method_56_code),
  (⟨RX12, "isWell", "()Z"⟩, prog_14_method_57_code),
  (⟨RX12, "fault", "(I)I"⟩, prog_14_method_58_code),
  (⟨RX12, "named", "(II)I"⟩, prog_14_method_59_code),
  (⟨RX12, "readNew", "(I)I"⟩, prog_14_method_60_code),
  (⟨RX12, "readTold", "(II)I"⟩, prog_14_method_61_code),
  (⟨RX12, "readRick", "()V"⟩, prog_14_method_62_code),
  (⟨RX12, "readSide", "()V"⟩, prog_14_method_63_code),
  (⟨RX12, "readDog", "()V"⟩, prog_14_method_64_code),
  (⟨RX12, "readBoy", "()V"⟩, prog_14_method_65_code),
  (⟨RX12, "readToll", "()V"⟩, prog_14_method_66_code),
  (⟨RX12, "yard", "(I)I"⟩, prog_14_method_67_code),
  (⟨RX12, "readTest", "(I)V"⟩, prog_14_method_68_code),
  (⟨RX12, "readRest", "(I)V"⟩, prog_14_method_69_code),
  (⟨RX12, "readStep", "(I)V"⟩, prog_14_method_70_code),
  (⟨RX12, "days", "(I)I"⟩, prog_14_method_71_code),
  (⟨RX12, "isRickAt", "(I)Z"⟩, prog_14_method_72_code),
  (⟨RX12, "isSideAt", "(I)Z"⟩, prog_14_method_73_code),
  (⟨RX12, "isDogAt", "(I)Z"⟩, prog_14_method_74_code),
  (⟨RX12, "isBoyAt", "(I)Z"⟩, prog_14_method_75_code),
  (⟨RX12, "layerAt", "(II)I"⟩, prog_14_method_76_code),
  (⟨RX12, "ratsOf", "(I)I"⟩, prog_14_method_77_code),
  (⟨RX12, "tails", "()I"⟩, prog_14_method_78_code),
  (⟨RX12, "caught", "()I"⟩, prog_14_method_79_code),
  (⟨RX12, "many", "(I)I"⟩, prog_14_method_80_code),
  (⟨RX12, "rick", "(II)I"⟩, prog_14_method_81_code),
  (⟨RX12, "layer", "(II)I"⟩, prog_14_method_82_code),
  (⟨RX12, "side", "(II)I"⟩, prog_14_method_83_code),
  (⟨RX12, "dog", "(II)I"⟩, prog_14_method_84_code),
  (⟨RX12, "boy", "(II)I"⟩, prog_14_method_85_code),
  (⟨RX12, "netted", "()I"⟩, prog_14_method_86_code),
  (⟨RX12, "pay", "()I"⟩, prog_14_method_87_code),
  (⟨RX12, "share", "()Z"⟩, prog_14_method_88_code),
  (⟨RX12, "copyLayers", "(II)I"⟩, prog_14_method_89_code),
  (⟨RX12, "allWeights", "()I"⟩, prog_14_method_90_code),
  (⟨RX12, "goes", "(I)V"⟩, prog_14_method_91_code),
  (⟨RX12, "isNetAt", "(I)Z"⟩, prog_14_method_92_code),
  (⟨RX12, "nets", "(Z)I"⟩, prog_14_method_93_code),
  (⟨RX12, "boysAt", "(I)I"⟩, prog_14_method_94_code),
  (⟨RX12, "getsOff", "(IIIZ)V"⟩, prog_14_method_95_code),
  (⟨RX12, "passes", "(IIZ)V"⟩, prog_14_method_96_code),
  (⟨RX12, "runs", "(IIZ)I"⟩, prog_14_method_97_code),
  (⟨RX12, "takesLayer", "()I"⟩, prog_14_method_98_code),
  (⟨RX12, "takesLast", "(I)I"⟩, prog_14_method_99_code),
  (⟨RX12, "take", "(I)I"⟩, prog_14_method_100_code),
  (⟨RX12, "hour", "()I"⟩, prog_14_method_101_code),
  (⟨RX12, "last", "(I)I"⟩, prog_14_method_102_code),
  (⟨RX12, "nets2", "(II)Z"⟩, prog_14_method_103_code),
  (⟨RX12, "net", "(I)Z"⟩, prog_14_method_104_code),
  (⟨RX12, "gap", "(I)Z"⟩, prog_14_method_105_code),
  (⟨RX12, "move", "(II)Z"⟩, prog_14_method_106_code),
  (⟨RX12, "send", "(II)Z"⟩, prog_14_method_107_code),
  (⟨RX12, "lean", "(II)Z"⟩, prog_14_method_108_code),
  (⟨RX12, "isTired", "(I)Z"⟩, prog_14_method_109_code),
  (⟨RX12, "tiredSet", "()I"⟩, prog_14_method_110_code),
  (⟨RX12, "rest", "()I"⟩, prog_14_method_111_code),
  (⟨RX12, "bred", "(I)I"⟩, prog_14_method_112_code),
  (⟨RX12, "weeks", "(I)V"⟩, prog_14_method_113_code),
  (⟨RX12, "week", "(I)I"⟩, prog_14_method_114_code),
  (⟨RX12, "keeps", "()V"⟩, prog_14_method_115_code),
  (⟨RX12, "gives", "()V"⟩, prog_14_method_116_code),
  (⟨RX12, "toSide", "(II)I"⟩, prog_14_method_117_code),
  (⟨RX12, "run", "(IZI)I"⟩, prog_14_method_118_code),
  (⟨RX12, "goesWhole", "(II)V"⟩, prog_14_method_119_code),
  (⟨RX12, "offOf", "(II)I"⟩, prog_14_method_120_code),
  (⟨RX12, "whyNoWhole", "(II)I"⟩, prog_14_method_121_code),
  (⟨RX12, "whole", "(III)I"⟩, prog_14_method_122_code),
  (⟨RX12, "bestNets", "(II)I"⟩, prog_14_method_123_code),
  (⟨RX12, "netSet", "()I"⟩, prog_14_method_124_code),
  (⟨RX12, "bestPlaces", "(II)I"⟩, prog_14_method_125_code),
  (⟨RX12, "laysDogs", "(II)V"⟩, prog_14_method_126_code),
  (⟨RX12, "placeAt", "(I)I"⟩, prog_14_method_127_code),
  (⟨RX12, "orders", "(IIII)V"⟩, prog_14_method_128_code),
  (⟨RX12, "bestOrder", "(I)I"⟩, prog_14_method_129_code),
  (⟨RX12, "orderAt", "(I)I"⟩, prog_14_method_130_code),
  (⟨RX12, "slowly", "(I)I"⟩, prog_14_method_131_code),
  (⟨RX12, "dearest", "(II)I"⟩, prog_14_method_132_code),
  (⟨RX12, "proudest", "()I"⟩, prog_14_method_133_code),
  (⟨RX12, "tired", "()I"⟩, prog_14_method_134_code),
  (⟨RX12, "beginsWeeks", "(I)V"⟩, prog_14_method_135_code),
  (⟨RX12, "goesWeek", "(I)V"⟩, prog_14_method_136_code),
  (⟨RX12, "allGrown", "()I"⟩, prog_14_method_137_code),
  (⟨RX12, "later", "(II)I"⟩, prog_14_method_138_code),
  (⟨RX12, "backTo", "(II)I"⟩, prog_14_method_139_code),
  (⟨RX12, "eaten", "(II)J"⟩, prog_14_method_140_code),
  (⟨RX12, "capsPay", "(I)I"⟩, prog_14_method_141_code),
  (⟨RX12, "cap", "(I)I"⟩, prog_14_method_142_code),
  (⟨RX12, "runsSo", "(IIII)Z"⟩, prog_14_method_143_code),
  (⟨RX12, "tells", "(IIII)I"⟩, prog_14_method_144_code),
  (⟨RX12, "draw", "(I)I"⟩, prog_14_method_145_code),
  (⟨RX12, "winds", "()V"⟩, prog_14_method_146_code),
  (⟨RX12, "hourGoes", "(I)Z"⟩, prog_14_method_147_code),
  (⟨RX12, "does", "(I)Z"⟩, prog_14_method_148_code),
  (⟨RX12, "isSo", "(I)Z"⟩, prog_14_method_149_code),
  (⟨RX12, "doOne", "(I)V"⟩, prog_14_method_150_code),
  (⟨RX12, "doAll", "(II)V"⟩, prog_14_method_151_code),
  (⟨RX12, "runsDays", "(I)V"⟩, prog_14_method_152_code),
  (⟨RX12, "live", "(I)I"⟩, prog_14_method_153_code),
  (⟨RX12, "lived", "(I)I"⟩, prog_14_method_154_code),
  (⟨RX12, "mean", "(II)Z"⟩, prog_14_method_155_code),
  (⟨RX12, "copy", "(II)V"⟩, prog_14_method_156_code),
  (⟨RX12, "mark", "()I"⟩, prog_14_method_157_code),
  (⟨RX12, "back", "()I"⟩, prog_14_method_158_code),
  (⟨"java/lang/Integer", "bitCount", "(I)I"⟩, prog_15_method_49_code),
  (⟨"LastLayerLaw", "law", "([I)Z"⟩, code)]
def am_nM : Nat := 355
def am_rets : List (Option FieldType) := [none, some .int, some .boolean, some .long]
