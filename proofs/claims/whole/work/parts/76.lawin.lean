theorem lw_sub {big : List Cond} (ws : List Cond) (ps : List Nat) (hp : ws = ps.filterMap (fun i => big[i]?)) : ∀ w ∈ ws, w ∈ big := by
  intro w hw
  rw [hp] at hw
  obtain ⟨i, -, hi⟩ := List.mem_filterMap.mp hw
  exact List.mem_of_getElem? hi
theorem lw_ap {big a b : List Cond} (ha : ∀ w ∈ a, w ∈ big) (hb : ∀ w ∈ b, w ∈ big) : ∀ w ∈ a ++ b, w ∈ big := fun w h => (List.mem_append.mp h).elim (ha w) (hb w)
set_option maxRecDepth 100000 in
theorem in_wsL_law0_r1 : ∀ w ∈ wsL_law0_r1, w ∈ lw_tbl := lw_sub wsL_law0_r1 [54, 55, 40, 523, 524, 46, 746, 56, 57, 58, 59, 60, 61, 154, 155, 91, 156, 157, 158, 159, 160, 65, 66, 42] (by decide +kernel)
set_option maxRecDepth 100000 in
theorem in_wsL_law0_r2 : ∀ w ∈ wsL_law0_r2, w ∈ lw_tbl := lw_sub wsL_law0_r2 [161, 92, 93, 43, 162, 116, 117, 44, 163, 136, 137, 45, 164, 62, 63, 41, 64, 68, 69, 70, 71, 73, 74, 75] (by decide +kernel)
set_option maxRecDepth 100000 in
theorem in_wsL_law0_r3 : ∀ w ∈ wsL_law0_r3, w ∈ lw_tbl := lw_sub wsL_law0_r3 [76, 77, 95, 96, 97, 98, 100, 101, 115, 102, 103, 119, 120, 121, 122, 124, 125, 126, 139, 140, 141, 142, 144, 146] (by decide +kernel)
set_option maxRecDepth 100000 in
theorem in_wsL_law0_r4 : ∀ w ∈ wsL_law0_r4, w ∈ lw_tbl := lw_sub wsL_law0_r4 [525, 526, 527, 528, 535, 536, 537, 538, 539, 540, 541, 542, 543, 544, 545, 546, 547, 548, 549, 550, 551, 553, 310, 311] (by decide +kernel)
set_option maxRecDepth 100000 in
theorem in_wsL_law0_r5 : ∀ w ∈ wsL_law0_r5, w ∈ lw_tbl := lw_sub wsL_law0_r5 [39, 312, 313, 314, 315, 316, 317, 318, 50, 609, 610, 611, 612, 530, 529, 605, 606, 607, 608, 386, 387, 388, 389, 390] (by decide +kernel)
set_option maxRecDepth 100000 in
theorem in_wsL_law0_r6 : ∀ w ∈ wsL_law0_r6, w ∈ lw_tbl := lw_sub wsL_law0_r6 [391, 392, 393, 394, 51, 192, 194, 0, 195, 196, 197, 198, 221, 222, 223, 213, 214, 215, 216, 414, 17, 415, 613, 614] (by decide +kernel)
set_option maxRecDepth 100000 in
theorem in_wsL_law0_r7 : ∀ w ∈ wsL_law0_r7, w ∈ lw_tbl := lw_sub wsL_law0_r7 [615, 616, 531, 617, 619, 26, 620, 621, 622, 623, 624, 625, 626, 627, 628, 629, 630, 188, 189, 190, 191, 199, 201, 1] (by decide +kernel)
set_option maxRecDepth 100000 in
theorem in_wsL_law0_r8 : ∀ w ∈ wsL_law0_r8, w ∈ lw_tbl := lw_sub wsL_law0_r8 [202, 203, 204, 205, 206, 207, 208, 631, 632, 633, 634, 635, 637, 27, 638, 416, 417, 418, 419, 420, 421, 422, 423, 425] (by decide +kernel)
set_option maxRecDepth 100000 in
theorem in_wsL_law0_r9 : ∀ w ∈ wsL_law0_r9, w ∈ lw_tbl := lw_sub wsL_law0_r9 [18, 426, 428, 430, 19, 431, 253, 255, 9, 256, 257, 259, 10, 260, 432, 433, 52, 434, 435, 436, 437, 639, 640, 641] (by decide +kernel)
set_option maxRecDepth 100000 in
theorem in_wsL_law0_r10 : ∀ w ∈ wsL_law0_r10, w ∈ lw_tbl := lw_sub wsL_law0_r10 [642, 643, 645, 28, 646, 647, 648, 649, 650, 652, 29, 653, 654, 656, 30, 657, 658, 660, 31, 661, 662, 664, 32, 665] (by decide +kernel)
set_option maxRecDepth 100000 in
theorem in_wsL_law0_r11 : ∀ w ∈ wsL_law0_r11, w ∈ lw_tbl := lw_sub wsL_law0_r11 [533, 438, 439, 440, 441, 442, 443, 444, 445, 447, 20, 448, 666, 667, 668, 669, 670, 672, 33, 673, 449, 450, 451, 452] (by decide +kernel)
set_option maxRecDepth 100000 in
theorem in_wsL_law0_r12 : ∀ w ∈ wsL_law0_r12, w ∈ lw_tbl := lw_sub wsL_law0_r12 [453, 454, 455, 460, 21, 461, 674, 675, 676, 677, 532, 462, 463, 464, 465, 466, 467, 468, 473, 22, 474, 678, 679, 680] (by decide +kernel)
set_option maxRecDepth 100000 in
theorem in_wsL_law0_r13 : ∀ w ∈ wsL_law0_r13, w ∈ lw_tbl := lw_sub wsL_law0_r13 [681, 209, 210, 211, 212, 682, 683, 684, 685, 217, 218, 219, 220, 224, 226, 2, 227, 230, 3, 231, 232, 234, 4, 235] (by decide +kernel)
set_option maxRecDepth 100000 in
theorem in_wsL_law0_r14 : ∀ w ∈ wsL_law0_r14, w ∈ lw_tbl := lw_sub wsL_law0_r14 [236, 238, 5, 239, 240, 242, 6, 243, 246, 7, 247, 248, 250, 8, 251, 261, 263, 11, 264, 267, 12, 268, 686, 687] (by decide +kernel)
set_option maxRecDepth 100000 in
theorem in_wsL_law0_r15 : ∀ w ∈ wsL_law0_r15, w ∈ lw_tbl := lw_sub wsL_law0_r15 [688, 689, 690, 692, 34, 693, 694, 696, 35, 697, 698, 700, 36, 701, 270, 271, 272, 273, 274, 276, 13, 277, 702, 703] (by decide +kernel)
set_option maxRecDepth 100000 in
theorem in_wsL_law0_r16 : ∀ w ∈ wsL_law0_r16, w ∈ lw_tbl := lw_sub wsL_law0_r16 [704, 705, 534, 278, 279, 280, 281, 282, 706, 707, 708, 709, 475, 476, 477, 478, 479, 480, 481, 482, 485, 53, 483, 299] (by decide +kernel)
set_option maxRecDepth 100000 in
theorem in_wsL_law0_r17 : ∀ w ∈ wsL_law0_r17, w ∈ lw_tbl := lw_sub wsL_law0_r17 [300, 301, 501, 297, 298, 710, 711, 712, 713, 714, 715, 716, 717, 718, 719, 720, 283, 284, 285, 286, 289, 14, 290, 295] (by decide +kernel)
set_option maxRecDepth 100000 in
theorem in_wsL_law0_r18 : ∀ w ∈ wsL_law0_r18, w ∈ lw_tbl := lw_sub wsL_law0_r18 [291, 293, 15, 294, 721, 722, 723, 724, 552, 725, 302, 303, 304, 305, 726, 727, 728, 729, 502, 503, 504, 505, 506, 507] (by decide +kernel)
set_option maxRecDepth 100000 in
theorem in_wsL_law0_r19 : ∀ w ∈ wsL_law0_r19, w ∈ lw_tbl := lw_sub wsL_law0_r19 [508, 510, 512, 23, 513, 516, 24, 517, 521, 25, 522, 730, 731, 732, 733, 734, 736, 37, 737, 738, 740, 38, 741, 306] (by decide +kernel)
set_option maxRecDepth 100000 in
theorem in_wsL_law0_r20 : ∀ w ∈ wsL_law0_r20, w ∈ lw_tbl := lw_sub wsL_law0_r20 [307, 308, 309, 742, 743, 744, 745] (by decide +kernel)
set_option maxRecDepth 100000 in
theorem in_wsX40 : ∀ w ∈ wsX40, w ∈ lw_tbl := by decide +kernel
set_option maxRecDepth 100000 in
theorem in_wsX50 : ∀ w ∈ wsX50, w ∈ lw_tbl := by decide +kernel
set_option maxRecDepth 100000 in
theorem in_wsX20 : ∀ w ∈ wsX20, w ∈ lw_tbl := by decide +kernel
set_option maxRecDepth 100000 in
theorem in_wsX00 : ∀ w ∈ wsX00, w ∈ lw_tbl := by decide +kernel
set_option maxRecDepth 100000 in
theorem in_wsX30 : ∀ w ∈ wsX30, w ∈ lw_tbl := by decide +kernel
set_option maxRecDepth 100000 in
theorem in_wsX10 : ∀ w ∈ wsX10, w ∈ lw_tbl := by decide +kernel
