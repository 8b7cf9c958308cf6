/-! the words of isSound, in pieces -/
set_option maxRecDepth 20000 in
theorem gsnd_1 : GoodIn wsL_law (.code yL_isSound cL_isSound 12 (some .boolean) :: wsL_isSound_r1) := goodIn_r _ [632, 87, 88, 89, 2, 90, 32, 91, 92, 28, 93, 633, 634, 635, 636, 33, 637, 638, 639, 31, 640, 62, 63, 641, 642] (by decide +kernel) (by decide +kernel)
set_option maxRecDepth 20000 in
theorem gsnd_2 : GoodIn wsL_law wsL_isSound_r2 := goodIn_r _ [643, 644, 619, 6, 7, 8, 103, 104, 105, 106, 107, 108, 109, 110, 111, 645, 646, 69, 647, 116, 648, 649, 650, 651] (by decide +kernel) (by decide +kernel)
set_option maxRecDepth 20000 in
theorem gsnd_3 : GoodIn wsL_law wsL_isSound_r3 := goodIn_r _ [154, 155, 23, 166, 319, 98, 99, 100, 20, 101, 102, 129, 130, 131, 132, 133, 134, 135, 136, 137, 138, 139, 140, 141] (by decide +kernel) (by decide +kernel)
set_option maxRecDepth 20000 in
theorem gsnd_4 : GoodIn wsL_law wsL_isSound_r4 := goodIn_r _ [142, 143, 144, 39, 169, 170, 171, 172, 173, 174, 297, 298, 299, 300, 301, 302, 94, 95, 96, 97, 175, 176, 177, 115] (by decide +kernel) (by decide +kernel)
set_option maxRecDepth 20000 in
theorem gsnd_5 : GoodIn wsL_law wsL_isSound_r5 := goodIn_r _ [178, 179, 180, 181, 182, 183, 184, 185, 186, 126, 127, 187, 188, 189, 190, 191, 192, 193, 194, 195, 196, 197, 198, 199] (by decide +kernel) (by decide +kernel)
set_option maxRecDepth 20000 in
theorem gsnd_6 : GoodIn wsL_law wsL_isSound_r6 := goodIn_r _ [200, 201, 202, 203, 204, 205, 206, 207, 208, 209, 210, 211, 212, 213, 214, 215, 216, 217, 218, 219, 220, 221, 222, 223] (by decide +kernel) (by decide +kernel)
set_option maxRecDepth 20000 in
theorem gsnd_7 : GoodIn wsL_law wsL_isSound_r7 := goodIn_r _ [224, 225, 226, 167, 168, 227, 228, 229, 230, 231, 232, 233, 234, 235, 236, 237, 238, 652, 653, 654, 327, 655, 656, 657] (by decide +kernel) (by decide +kernel)
set_option maxRecDepth 20000 in
theorem gsnd_8 : GoodIn wsL_law wsL_isSound_r8 := goodIn_r _ [658, 659, 121, 660, 334, 335, 336, 337, 338, 661, 112, 113, 114, 117, 118, 119, 120, 122, 123, 124, 125, 21, 128, 145] (by decide +kernel) (by decide +kernel)
set_option maxRecDepth 20000 in
theorem gsnd_9 : GoodIn wsL_law wsL_isSound_r9 := goodIn_r _ [146, 147, 148, 149, 150, 151, 152, 153, 156, 157, 158, 159, 160, 161, 162, 163, 164, 165, 662, 663, 664, 665, 10, 666] (by decide +kernel) (by decide +kernel)
set_option maxRecDepth 20000 in
theorem gsnd_10 : GoodIn wsL_law wsL_isSound_r10 := goodIn_r _ [667, 668, 669, 670, 671, 672, 673, 239, 240, 241, 242, 243, 244, 245, 246, 247, 248, 249, 250, 251, 252, 24, 253, 254] (by decide +kernel) (by decide +kernel)
set_option maxRecDepth 20000 in
theorem gsnd_11 : GoodIn wsL_law wsL_isSound_r11 := goodIn_r _ [255, 256, 257, 258, 259, 260, 261, 262, 263, 264, 265, 266, 267, 268, 269, 270, 271, 272, 273, 274, 275, 276, 277, 278] (by decide +kernel) (by decide +kernel)
set_option maxRecDepth 20000 in
theorem gsnd_12 : GoodIn wsL_law wsL_isSound_r12 := goodIn_r _ [279, 280, 281, 282, 283, 284, 285, 286, 287, 288, 289, 290, 291, 292, 293, 294, 295, 296, 303, 304, 305, 306, 307, 308] (by decide +kernel) (by decide +kernel)
set_option maxRecDepth 20000 in
theorem gsnd_13 : GoodIn wsL_law wsL_isSound_r13 := goodIn_r _ [309, 310, 311, 312, 313, 314, 315, 316, 317, 318, 320, 321, 322, 323, 674, 675, 676, 677, 678, 679, 680, 681, 682, 683] (by decide +kernel) (by decide +kernel)
set_option maxRecDepth 20000 in
theorem gsnd_14 : GoodIn wsL_law wsL_isSound_r14 := goodIn_r _ [684, 685, 686, 687, 485, 486, 688, 689, 690, 691, 692, 22, 693, 694, 695, 696, 629] (by decide +kernel) (by decide +kernel)
set_option maxRecDepth 20000 in
theorem gsnd_X70 : GoodIn wsL_law wsX70 := goodIn_r _ [708, 709, 710, 711, 712, 713, 714, 715] (by decide +kernel) (by decide +kernel)
set_option maxRecDepth 20000 in
theorem gsnd_X20 : GoodIn wsL_law wsX20 := goodIn_r _ [725, 726, 727, 728, 729] (by decide +kernel) (by decide +kernel)
set_option maxRecDepth 20000 in
theorem gsnd_X00 : GoodIn wsL_law wsX00 := goodIn_r _ [719, 720, 721, 722, 723, 724] (by decide +kernel) (by decide +kernel)
set_option maxRecDepth 20000 in
theorem gsnd_X40 : GoodIn wsL_law wsX40 := goodIn_r _ [747, 748, 749, 750, 751, 752] (by decide +kernel) (by decide +kernel)
set_option maxRecDepth 20000 in
theorem gsnd_Jx4a65c0 : GoodIn wsL_law wsJx4a65c0 := goodIn_r _ [716, 717, 718] (by decide +kernel) (by decide +kernel)
set_option maxRecDepth 20000 in
theorem gsnd_X60 : GoodIn wsL_law wsX60 := goodIn_r _ [753, 754, 755] (by decide +kernel) (by decide +kernel)
set_option maxRecDepth 20000 in
theorem gsnd_X10 : GoodIn wsL_law wsX10 := goodIn_r _ [756, 757, 758] (by decide +kernel) (by decide +kernel)
set_option maxRecDepth 20000 in
theorem gsnd_X50 : GoodIn wsL_law wsX50 := goodIn_r _ [730, 731, 732, 733, 734, 735, 736, 737, 738, 739, 740, 741, 742, 743, 744, 745, 746] (by decide +kernel) (by decide +kernel)
set_option maxRecDepth 20000 in
theorem gsnd_X30 : GoodIn wsL_law wsX30 := goodIn_r _ [759, 760, 761, 762, 763, 764] (by decide +kernel) (by decide +kernel)
set_option maxRecDepth 20000 in
theorem ggL_law_L_isSound : GoodIn wsL_law wsL_isSound := goodIn_ca (goodIn_ca (goodIn_ca (goodIn_ca (goodIn_ca (goodIn_ca (goodIn_ca (goodIn_ca (goodIn_ca (goodIn_ca (goodIn_ca (goodIn_ca (goodIn_ca (goodIn_ca (goodIn_ca (goodIn_ca (goodIn_ca gsnd_1 (goodIn_app gsnd_2 (goodIn_app gsnd_3 (goodIn_app gsnd_4 (goodIn_app gsnd_5 (goodIn_app gsnd_6 (goodIn_app gsnd_7 (goodIn_app gsnd_8 (goodIn_app gsnd_9 (goodIn_app gsnd_10 (goodIn_app gsnd_11 (goodIn_app gsnd_12 (goodIn_app gsnd_13 (gsnd_14)))))))))))))) gsnd_X70) gsnd_X20) gsnd_X00) gsnd_X40) gsnd_Jx4a65c0) gsnd_X60) gsnd_X10) gsnd_X50) gsnd_X30) (goodIn_sub (fun _ h => List.mem_append_left _ (List.mem_append_left _ (List.mem_append_left _ (List.mem_append_left _ (List.mem_append_left _ (List.mem_append_left _ (List.mem_append_left _ (List.mem_append_right _ h)))))))) (by decide +kernel))) (goodIn_sub (fun _ h => List.mem_append_left _ (List.mem_append_left _ (List.mem_append_left _ (List.mem_append_left _ (List.mem_append_right _ h))))) (by decide +kernel))) (goodIn_sub (fun _ h => List.mem_append_left _ (List.mem_append_left _ (List.mem_append_left _ (List.mem_append_left _ (List.mem_append_left _ (List.mem_append_right _ h)))))) (by decide +kernel))) (goodIn_sub (fun _ h => List.mem_append_left _ (List.mem_append_right _ h)) (by decide +kernel))) (goodIn_sub (fun _ h => List.mem_append_right _ h) (by decide +kernel))) (goodIn_sub (fun _ h => List.mem_append_left _ (List.mem_append_left _ (List.mem_append_left _ (List.mem_append_right _ h)))) (by decide +kernel))) (goodIn_sub (fun _ h => List.mem_append_left _ (List.mem_append_left _ (List.mem_append_right _ h))) (by decide +kernel))
set_option maxRecDepth 20000 in
theorem gL_law_L_isSound : GoodIn wsL_law (va_wsS RL 244 yL_isSound wsL_isSound) := goodIn_app (goodIn_of _ (by decide +kernel)) ggL_law_L_isSound
