/-! the words of the law among the tables' words, a list at a time -/
set_option maxRecDepth 20000 in
set_option maxRecDepth 100000 in
theorem wsL_law_r1_in : ∀ w ∈ wsL_law_r1, w ∈ lw_tbl := fun w h => (goodIn_r wsL_law_r1 [41, 42, 30, 522, 523, 32, 43, 44, 45, 46, 47, 48, 49, 62, 51, 63, 53, 64, 55, 65, 57, 105, 66, 67] rfl (by decide +kernel) w h).1
set_option maxRecDepth 20000 in
set_option maxRecDepth 100000 in
theorem wsL_law_r2_in : ∀ w ∈ wsL_law_r2, w ∈ lw_tbl := fun w h => (goodIn_r wsL_law_r2 [68, 69, 59, 60, 31, 61, 524, 525, 526, 527, 530, 531, 532, 534, 535, 536, 537, 538, 539, 540, 542, 543, 544, 545] rfl (by decide +kernel) w h).1
set_option maxRecDepth 20000 in
set_option maxRecDepth 100000 in
theorem wsL_law_r3_in : ∀ w ∈ wsL_law_r3, w ∈ lw_tbl := fun w h => (goodIn_r wsL_law_r3 [546, 547, 548, 549, 550, 551, 640, 552, 554, 555, 556, 557, 558, 559, 560, 561, 562, 564, 106, 107, 108, 109, 71, 110] rfl (by decide +kernel) w h).1
set_option maxRecDepth 20000 in
set_option maxRecDepth 100000 in
theorem wsL_law_r4_in : ∀ w ∈ wsL_law_r4, w ∈ lw_tbl := fun w h => (goodIn_r wsL_law_r4 [33, 111, 112, 113, 114, 118, 120, 123, 115, 126, 117, 641, 642, 643, 644, 529, 137, 138, 139, 140, 72, 152, 153, 34] rfl (by decide +kernel) w h).1
set_option maxRecDepth 20000 in
set_option maxRecDepth 100000 in
theorem wsL_law_r5_in : ∀ w ∈ wsL_law_r5, w ∈ lw_tbl := fun w h => (goodIn_r wsL_law_r5 [141, 143, 0, 144, 145, 147, 1, 148, 149, 150, 151, 154, 155, 156, 157, 158, 159, 160, 162, 163, 164, 179, 181, 2] rfl (by decide +kernel) w h).1
set_option maxRecDepth 20000 in
set_option maxRecDepth 100000 in
theorem wsL_law_r6_in : ∀ w ∈ wsL_law_r6, w ∈ lw_tbl := fun w h => (goodIn_r wsL_law_r6 [182, 183, 184, 35, 185, 645, 646, 647, 648, 649, 533, 650, 651, 652, 653, 655, 17, 656, 657, 659, 18, 660, 190, 191] rfl (by decide +kernel) w h).1
set_option maxRecDepth 20000 in
set_option maxRecDepth 100000 in
theorem wsL_law_r7_in : ∀ w ∈ wsL_law_r7, w ∈ lw_tbl := fun w h => (goodIn_r wsL_law_r7 [192, 193, 119, 197, 194, 195, 196, 661, 662, 663, 664, 672, 665, 666, 667, 668, 670, 19, 671, 673, 675, 20, 676, 198] rfl (by decide +kernel) w h).1
set_option maxRecDepth 20000 in
set_option maxRecDepth 100000 in
theorem wsL_law_r8_in : ∀ w ∈ wsL_law_r8, w ∈ lw_tbl := fun w h => (goodIn_r wsL_law_r8 [199, 200, 201, 677, 678, 679, 680, 202, 203, 204, 205, 70, 73, 223, 36, 161, 228, 229, 230, 231, 232, 234, 253, 206] rfl (by decide +kernel) w h).1
set_option maxRecDepth 20000 in
set_option maxRecDepth 100000 in
theorem wsL_law_r9_in : ∀ w ∈ wsL_law_r9, w ∈ lw_tbl := fun w h => (goodIn_r wsL_law_r9 [208, 3, 209, 210, 211, 212, 213, 214, 215, 216, 217, 219, 221, 4, 222, 165, 224, 225, 226, 227, 235, 236, 237, 238] rfl (by decide +kernel) w h).1
set_option maxRecDepth 20000 in
set_option maxRecDepth 100000 in
theorem wsL_law_r10_in : ∀ w ∈ wsL_law_r10, w ∈ lw_tbl := fun w h => (goodIn_r wsL_law_r10 [256, 258, 241, 243, 245, 254, 247, 249, 239, 240, 251, 285, 287, 5, 288, 74, 397, 242, 395, 244, 399, 289, 291, 6] rfl (by decide +kernel) w h).1
set_option maxRecDepth 20000 in
set_option maxRecDepth 100000 in
theorem wsL_law_r11_in : ∀ w ∈ wsL_law_r11, w ∈ lw_tbl := fun w h => (goodIn_r wsL_law_r11 [292, 293, 187, 188, 189, 681, 682, 683, 684, 528, 541, 553, 685, 687, 21, 688, 689, 690, 691, 692, 294, 295, 296, 297] rfl (by decide +kernel) w h).1
set_option maxRecDepth 20000 in
set_option maxRecDepth 100000 in
theorem wsL_law_r12_in : ∀ w ∈ wsL_law_r12, w ∈ lw_tbl := fun w h => (goodIn_r wsL_law_r12 [259, 255, 252, 298, 300, 7, 301, 302, 304, 8, 305, 306, 75, 693, 694, 695, 696, 563, 697, 699, 22, 700, 701, 703] rfl (by decide +kernel) w h).1
set_option maxRecDepth 20000 in
set_option maxRecDepth 100000 in
theorem wsL_law_r13_in : ∀ w ∈ wsL_law_r13, w ∈ lw_tbl := fun w h => (goodIn_r wsL_law_r13 [23, 704, 307, 308, 309, 310, 261, 705, 706, 707, 708, 311, 312, 313, 314, 315, 317, 9, 318, 246, 319, 321, 10, 322] rfl (by decide +kernel) w h).1
set_option maxRecDepth 20000 in
set_option maxRecDepth 100000 in
theorem wsL_law_r14_in : ∀ w ∈ wsL_law_r14, w ∈ lw_tbl := fun w h => (goodIn_r wsL_law_r14 [257, 323, 325, 11, 326, 327, 329, 330, 331, 39, 332, 426, 124, 427, 334, 335, 336, 337, 38, 338, 389, 121, 390, 340] rfl (by decide +kernel) w h).1
set_option maxRecDepth 20000 in
set_option maxRecDepth 100000 in
theorem wsL_law_r15_in : ∀ w ∈ wsL_law_r15, w ∈ lw_tbl := fun w h => (goodIn_r wsL_law_r15 [341, 40, 342, 392, 393, 447, 127, 343, 344, 345, 346, 709, 710, 711, 712, 713, 715, 24, 716, 717, 719, 25, 720, 347] rfl (by decide +kernel) w h).1
set_option maxRecDepth 20000 in
set_option maxRecDepth 100000 in
theorem wsL_law_r16_in : ∀ w ∈ wsL_law_r16, w ∈ lw_tbl := fun w h => (goodIn_r wsL_law_r16 [348, 349, 350, 125, 122, 351, 352, 353, 354, 721, 722, 723, 724, 725, 727, 26, 728, 355, 356, 357, 358, 359, 729, 730] rfl (by decide +kernel) w h).1
set_option maxRecDepth 20000 in
set_option maxRecDepth 100000 in
theorem wsL_law_r17_in : ∀ w ∈ wsL_law_r17, w ∈ lw_tbl := fun w h => (goodIn_r wsL_law_r17 [731, 732, 733, 360, 361, 362, 363, 734, 735, 736, 737, 364, 365, 366, 367, 738, 739, 740, 741, 368, 369, 370, 371, 742] rfl (by decide +kernel) w h).1
set_option maxRecDepth 20000 in
set_option maxRecDepth 100000 in
theorem wsL_law_r18_in : ∀ w ∈ wsL_law_r18, w ∈ lw_tbl := fun w h => (goodIn_r wsL_law_r18 [743, 744, 745, 372, 373, 374, 375, 380, 381, 376, 378, 12, 379, 382, 383, 384, 385, 386, 37, 387, 388, 398, 391, 394] rfl (by decide +kernel) w h).1
set_option maxRecDepth 20000 in
set_option maxRecDepth 100000 in
theorem wsL_law_r19_in : ∀ w ∈ wsL_law_r19, w ∈ lw_tbl := fun w h => (goodIn_r wsL_law_r19 [396, 413, 415, 13, 416, 746, 747, 748, 749, 750, 752, 27, 753, 754, 756, 28, 757, 417, 418, 419, 420, 306, 421, 422] rfl (by decide +kernel) w h).1
set_option maxRecDepth 20000 in
set_option maxRecDepth 100000 in
theorem wsL_law_r20_in : ∀ w ∈ wsL_law_r20, w ∈ lw_tbl := fun w h => (goodIn_r wsL_law_r20 [423, 424, 425, 758, 759, 760, 761, 762, 437, 438, 439, 440, 441, 442, 443, 444, 445, 449, 446, 763, 764, 765, 766, 460] rfl (by decide +kernel) w h).1
set_option maxRecDepth 20000 in
set_option maxRecDepth 100000 in
theorem wsL_law_r21_in : ∀ w ∈ wsL_law_r21, w ∈ lw_tbl := fun w h => (goodIn_r wsL_law_r21 [461, 462, 463, 450, 464, 767, 768, 769, 770, 465, 466, 467, 468, 448, 771, 772, 773, 774, 186, 775, 469, 470, 471, 472] rfl (by decide +kernel) w h).1
set_option maxRecDepth 20000 in
set_option maxRecDepth 100000 in
theorem wsL_law_r22_in : ∀ w ∈ wsL_law_r22, w ∈ lw_tbl := fun w h => (goodIn_r wsL_law_r22 [776, 777, 778, 779, 473, 474, 475, 476, 477, 478, 479, 480, 481, 483, 14, 484, 784, 785, 786, 787, 788, 781, 782, 783] rfl (by decide +kernel) w h).1
set_option maxRecDepth 20000 in
set_option maxRecDepth 100000 in
theorem wsL_law_r23_in : ∀ w ∈ wsL_law_r23, w ∈ lw_tbl := fun w h => (goodIn_r wsL_law_r23 [485, 780, 486, 487, 488, 489, 490, 491, 492, 493, 494, 495, 496, 497, 260, 789, 790, 791, 792, 498, 499, 500, 501, 250] rfl (by decide +kernel) w h).1
set_option maxRecDepth 20000 in
set_option maxRecDepth 100000 in
theorem wsL_law_r24_in : ∀ w ∈ wsL_law_r24, w ∈ lw_tbl := fun w h => (goodIn_r wsL_law_r24 [248, 793, 794, 795, 796, 502, 503, 504, 505, 506, 508, 15, 509, 510, 511, 512, 513, 797, 798, 799, 800, 514, 515, 516] rfl (by decide +kernel) w h).1
set_option maxRecDepth 20000 in
set_option maxRecDepth 100000 in
theorem wsL_law_r25_in : ∀ w ∈ wsL_law_r25, w ∈ lw_tbl := fun w h => (goodIn_r wsL_law_r25 [517, 518, 520, 16, 521, 801, 802, 803, 804] rfl (by decide +kernel) w h).1
set_option maxRecDepth 20000 in
set_option maxRecDepth 100000 in
theorem wsX70_in : ∀ w ∈ wsX70, w ∈ lw_tbl := fun w h => (goodIn_r wsX70 [76, 78, 80, 82, 84, 86, 88, 90, 92, 94, 96, 98, 100, 102] rfl (by decide +kernel) w h).1
set_option maxRecDepth 20000 in
set_option maxRecDepth 100000 in
theorem wsX80_in : ∀ w ∈ wsX80, w ∈ lw_tbl := fun w h => (goodIn_r wsX80 [565, 567, 569, 571, 573, 575, 577, 579, 581, 583, 585, 587, 589, 591, 593, 595, 597, 599, 601, 603, 605, 607, 609, 611, 613, 615, 617, 619, 621, 623, 625, 627, 629, 631, 633, 635, 637] rfl (by decide +kernel) w h).1
set_option maxRecDepth 20000 in
set_option maxRecDepth 100000 in
theorem wsX40_in : ∀ w ∈ wsX40, w ∈ lw_tbl := fun w h => (goodIn_r wsX40 [128, 130, 132, 134] rfl (by decide +kernel) w h).1
set_option maxRecDepth 20000 in
set_option maxRecDepth 100000 in
theorem wsX60_in : ∀ w ∈ wsX60, w ∈ lw_tbl := fun w h => (goodIn_r wsX60 [166, 168, 170, 172, 174, 176] rfl (by decide +kernel) w h).1
set_option maxRecDepth 20000 in
set_option maxRecDepth 100000 in
theorem wsX00_in : ∀ w ∈ wsX00, w ∈ lw_tbl := fun w h => (goodIn_r wsX00 [262, 264, 266, 268, 270, 272, 274, 276, 278, 280, 282] rfl (by decide +kernel) w h).1
set_option maxRecDepth 20000 in
set_option maxRecDepth 100000 in
theorem wsX10_in : ∀ w ∈ wsX10, w ∈ lw_tbl := fun w h => (goodIn_r wsX10 [432, 433, 434, 435, 428, 430] rfl (by decide +kernel) w h).1
set_option maxRecDepth 20000 in
set_option maxRecDepth 100000 in
theorem wsX30_in : ∀ w ∈ wsX30, w ∈ lw_tbl := fun w h => (goodIn_r wsX30 [404, 406, 408, 410, 400, 402] rfl (by decide +kernel) w h).1
set_option maxRecDepth 20000 in
set_option maxRecDepth 100000 in
theorem wsX50_in : ∀ w ∈ wsX50, w ∈ lw_tbl := fun w h => (goodIn_r wsX50 [455, 456, 457, 458, 451, 453] rfl (by decide +kernel) w h).1
theorem wsL_law_in : ∀ w ∈ wsL_law, w ∈ lw_tbl := List.forall_mem_append.mpr ⟨List.forall_mem_append.mpr ⟨List.forall_mem_append.mpr ⟨List.forall_mem_append.mpr ⟨List.forall_mem_append.mpr ⟨List.forall_mem_append.mpr ⟨List.forall_mem_append.mpr ⟨List.forall_mem_append.mpr ⟨List.forall_mem_append.mpr ⟨List.forall_mem_append.mpr ⟨wsL_law_r1_in, List.forall_mem_append.mpr ⟨wsL_law_r2_in, List.forall_mem_append.mpr ⟨wsL_law_r3_in, List.forall_mem_append.mpr ⟨wsL_law_r4_in, List.forall_mem_append.mpr ⟨wsL_law_r5_in, List.forall_mem_append.mpr ⟨wsL_law_r6_in, List.forall_mem_append.mpr ⟨wsL_law_r7_in, List.forall_mem_append.mpr ⟨wsL_law_r8_in, List.forall_mem_append.mpr ⟨wsL_law_r9_in, List.forall_mem_append.mpr ⟨wsL_law_r10_in, List.forall_mem_append.mpr ⟨wsL_law_r11_in, List.forall_mem_append.mpr ⟨wsL_law_r12_in, List.forall_mem_append.mpr ⟨wsL_law_r13_in, List.forall_mem_append.mpr ⟨wsL_law_r14_in, List.forall_mem_append.mpr ⟨wsL_law_r15_in, List.forall_mem_append.mpr ⟨wsL_law_r16_in, List.forall_mem_append.mpr ⟨wsL_law_r17_in, List.forall_mem_append.mpr ⟨wsL_law_r18_in, List.forall_mem_append.mpr ⟨wsL_law_r19_in, List.forall_mem_append.mpr ⟨wsL_law_r20_in, List.forall_mem_append.mpr ⟨wsL_law_r21_in, List.forall_mem_append.mpr ⟨wsL_law_r22_in, List.forall_mem_append.mpr ⟨wsL_law_r23_in, List.forall_mem_append.mpr ⟨wsL_law_r24_in, wsL_law_r25_in⟩⟩⟩⟩⟩⟩⟩⟩⟩⟩⟩⟩⟩⟩⟩⟩⟩⟩⟩⟩⟩⟩⟩⟩, wsX70_in⟩, wsX80_in⟩, wsX40_in⟩, wsX60_in⟩, wsX00_in⟩, wsX10_in⟩, wsX30_in⟩, wsX50_in⟩, fun _ h => absurd h List.not_mem_nil⟩
theorem inlX0 : ∀ w ∈ wsX00, w ∈ wsL_law := fun _ h => List.mem_append_left _ (List.mem_append_left _ (List.mem_append_left _ (List.mem_append_left _ (List.mem_append_right _ h))))
theorem inX0 : ∀ w ∈ wsX00, w ∈ lw_tbl := fun w h => wsL_law_in w (inlX0 w h)
theorem inlX1 : ∀ w ∈ wsX10, w ∈ wsL_law := fun _ h => List.mem_append_left _ (List.mem_append_left _ (List.mem_append_left _ (List.mem_append_right _ h)))
theorem inX1 : ∀ w ∈ wsX10, w ∈ lw_tbl := fun w h => wsL_law_in w (inlX1 w h)
theorem inX2 : ∀ w ∈ wsX20, w ∈ lw_tbl := by decide +kernel
theorem inlX3 : ∀ w ∈ wsX30, w ∈ wsL_law := fun _ h => List.mem_append_left _ (List.mem_append_left _ (List.mem_append_right _ h))
theorem inX3 : ∀ w ∈ wsX30, w ∈ lw_tbl := fun w h => wsL_law_in w (inlX3 w h)
theorem inlX4 : ∀ w ∈ wsX40, w ∈ wsL_law := fun _ h => List.mem_append_left _ (List.mem_append_left _ (List.mem_append_left _ (List.mem_append_left _ (List.mem_append_left _ (List.mem_append_left _ (List.mem_append_right _ h))))))
theorem inX4 : ∀ w ∈ wsX40, w ∈ lw_tbl := fun w h => wsL_law_in w (inlX4 w h)
theorem inlX5 : ∀ w ∈ wsX50, w ∈ wsL_law := fun _ h => List.mem_append_left _ (List.mem_append_right _ h)
theorem inX5 : ∀ w ∈ wsX50, w ∈ lw_tbl := fun w h => wsL_law_in w (inlX5 w h)
theorem inlX6 : ∀ w ∈ wsX60, w ∈ wsL_law := fun _ h => List.mem_append_left _ (List.mem_append_left _ (List.mem_append_left _ (List.mem_append_left _ (List.mem_append_left _ (List.mem_append_right _ h)))))
theorem inX6 : ∀ w ∈ wsX60, w ∈ lw_tbl := fun w h => wsL_law_in w (inlX6 w h)
theorem inlX7 : ∀ w ∈ wsX70, w ∈ wsL_law := fun _ h => List.mem_append_left _ (List.mem_append_left _ (List.mem_append_left _ (List.mem_append_left _ (List.mem_append_left _ (List.mem_append_left _ (List.mem_append_left _ (List.mem_append_left _ (List.mem_append_right _ h))))))))
theorem inX7 : ∀ w ∈ wsX70, w ∈ lw_tbl := fun w h => wsL_law_in w (inlX7 w h)
theorem inlX8 : ∀ w ∈ wsX80, w ∈ wsL_law := fun _ h => List.mem_append_left _ (List.mem_append_left _ (List.mem_append_left _ (List.mem_append_left _ (List.mem_append_left _ (List.mem_append_left _ (List.mem_append_left _ (List.mem_append_right _ h)))))))
theorem inX8 : ∀ w ∈ wsX80, w ∈ lw_tbl := fun w h => wsL_law_in w (inlX8 w h)
theorem inJx8e188 : ∀ w ∈ wsJx8e1880, w ∈ lw_tbl := by decide +kernel
theorem inJ9 : ∀ w ∈ wsJ90, w ∈ lw_tbl := by decide +kernel
theorem inJ7 : ∀ w ∈ wsJ70, w ∈ lw_tbl := by decide +kernel
