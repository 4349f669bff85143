theorem fb_in_of {big ws : List Cond} (ps : List Nat) (hp : ws = ps.filterMap (fun i => big[i]?)) : ∀ w ∈ ws, w ∈ big := by
  intro w hw
  rw [hp] at hw
  obtain ⟨i, -, hi⟩ := List.mem_filterMap.mp hw
  exact List.mem_of_getElem? hi
theorem fb_in_app {big a b : List Cond} (ha : ∀ w ∈ a, w ∈ big) (hb : ∀ w ∈ b, w ∈ big) : ∀ w ∈ a ++ b, w ∈ big := fun w h => (List.mem_append.mp h).elim (ha w) (hb w)
set_option maxRecDepth 100000 in
theorem in_wsL_law0_r1 : ∀ w ∈ wsL_law0_r1, w ∈ lw_tbl := fb_in_of [40, 41, 29, 515, 516, 31, 753, 42, 43, 44, 45, 46, 47, 48, 49, 30, 80, 81, 50, 51, 52, 53, 79, 54] rfl
set_option maxRecDepth 100000 in
theorem in_wsL_law0_r2 : ∀ w ∈ wsL_law0_r2, w ∈ lw_tbl := fb_in_of [56, 58, 60, 62, 64, 517, 518, 519, 520, 523, 524, 525, 526, 527, 240, 241, 28, 242, 243, 244, 245, 246, 247, 248] rfl
set_option maxRecDepth 100000 in
theorem in_wsL_law0_r3 : ∀ w ∈ wsL_law0_r3, w ∈ lw_tbl := fb_in_of [249, 55, 250, 251, 252, 253, 35, 321, 322, 323, 324, 36, 340, 342, 4, 343, 344, 37, 63, 360, 361, 362, 363, 99] rfl
set_option maxRecDepth 100000 in
theorem in_wsL_law0_r4 : ∀ w ∈ wsL_law0_r4, w ∈ lw_tbl := fb_in_of [100, 38, 101, 364, 365, 366, 367, 547, 548, 549, 550, 521, 551, 552, 553, 554, 555, 556, 557, 559, 6, 560, 543, 544] rfl
set_option maxRecDepth 100000 in
theorem in_wsL_law0_r5 : ∀ w ∈ wsL_law0_r5, w ∈ lw_tbl := fb_in_of [545, 546, 368, 369, 370, 371, 372, 373, 374, 114, 115, 116, 117, 561, 562, 563, 564, 565, 567, 7, 568, 569, 571, 8] rfl
set_option maxRecDepth 100000 in
theorem in_wsL_law0_r6 : ∀ w ∈ wsL_law0_r6, w ∈ lw_tbl := fb_in_of [572, 375, 376, 377, 378, 379, 380, 381, 382, 383, 384, 385, 386, 387, 388, 389, 573, 574, 575, 576, 390, 391, 392, 393] rfl
set_option maxRecDepth 100000 in
theorem in_wsL_law0_r7 : ∀ w ∈ wsL_law0_r7, w ∈ lw_tbl := fb_in_of [394, 395, 396, 61, 577, 578, 579, 580, 397, 398, 399, 400, 401, 402, 403, 59, 581, 582, 583, 584, 404, 405, 406, 407] rfl
set_option maxRecDepth 100000 in
theorem in_wsL_law0_r8 : ∀ w ∈ wsL_law0_r8, w ∈ lw_tbl := fb_in_of [408, 409, 410, 141, 142, 143, 144, 149, 96, 97, 98, 585, 586, 587, 588, 589, 591, 9, 592, 593, 594, 595, 596, 598] rfl
set_option maxRecDepth 100000 in
theorem in_wsL_law0_r9 : ∀ w ∈ wsL_law0_r9, w ∈ lw_tbl := fb_in_of [10, 599, 87, 88, 89, 90, 91, 92, 93, 94, 95, 600, 601, 602, 603, 412, 413, 414, 415, 416, 417, 418, 57, 419] rfl
set_option maxRecDepth 100000 in
theorem in_wsL_law0_r10 : ∀ w ∈ wsL_law0_r10, w ∈ lw_tbl := fb_in_of [420, 421, 422, 126, 127, 128, 129, 130, 131, 132, 133, 424, 604, 605, 606, 607, 608, 610, 11, 611, 612, 614, 12, 615] rfl
set_option maxRecDepth 100000 in
theorem in_wsL_law0_r11 : ∀ w ∈ wsL_law0_r11, w ∈ lw_tbl := fb_in_of [616, 618, 13, 619, 620, 621, 622, 623, 437, 38, 438, 624, 172, 173, 425, 426, 427, 428, 429, 430, 431, 432, 433, 434] rfl
set_option maxRecDepth 100000 in
theorem in_wsL_law0_r12 : ∀ w ∈ wsL_law0_r12, w ∈ lw_tbl := fb_in_of [435, 436, 171, 439, 440, 441, 442, 134, 135, 136, 625, 626, 627, 628, 633, 629, 631, 14, 632, 522, 443, 444, 445, 446] rfl
set_option maxRecDepth 100000 in
theorem in_wsL_law0_r13 : ∀ w ∈ wsL_law0_r13, w ∈ lw_tbl := fb_in_of [447, 448, 449, 450, 451, 452, 200, 201, 202, 203, 204, 205, 206, 207, 186, 187, 188, 189, 190, 191, 192, 193, 196, 197] rfl
set_option maxRecDepth 100000 in
theorem in_wsL_law0_r14 : ∀ w ∈ wsL_law0_r14, w ∈ lw_tbl := fb_in_of [198, 199, 634, 635, 636, 637, 638, 640, 15, 641, 642, 644, 16, 645, 646, 647, 648, 649, 651, 652, 653, 454, 455, 456] rfl
set_option maxRecDepth 100000 in
theorem in_wsL_law0_r15 : ∀ w ∈ wsL_law0_r15, w ∈ lw_tbl := fb_in_of [457, 458, 459, 460, 208, 209, 210, 211, 212, 213, 214, 215, 654, 655, 656, 657, 658, 660, 17, 661, 461, 462, 463, 464] rfl
set_option maxRecDepth 100000 in
theorem in_wsL_law0_r16 : ∀ w ∈ wsL_law0_r16, w ∈ lw_tbl := fb_in_of [465, 466, 467, 216, 217, 218, 219, 220, 221, 222, 223, 662, 663, 664, 665, 666, 668, 18, 669, 670, 672, 19, 673, 468] rfl
set_option maxRecDepth 100000 in
theorem in_wsL_law0_r17 : ∀ w ∈ wsL_law0_r17, w ∈ lw_tbl := fb_in_of [469, 470, 471, 472, 473, 474, 224, 225, 226, 227, 228, 229, 230, 231, 674, 675, 676, 677, 678, 680, 20, 681, 682, 475] rfl
set_option maxRecDepth 100000 in
theorem in_wsL_law0_r18 : ∀ w ∈ wsL_law0_r18, w ∈ lw_tbl := fb_in_of [476, 477, 478, 479, 480, 481, 232, 233, 234, 235, 122, 123, 124, 125, 236, 237, 238, 239, 683, 684, 685, 686, 687, 689] rfl
set_option maxRecDepth 100000 in
theorem in_wsL_law0_r19 : ∀ w ∈ wsL_law0_r19, w ∈ lw_tbl := fb_in_of [21, 690, 691, 693, 22, 694, 695, 697, 23, 698, 482, 483, 484, 485, 486, 487, 488, 162, 163, 164, 165, 166, 119, 120] rfl
set_option maxRecDepth 100000 in
theorem in_wsL_law0_r20 : ∀ w ∈ wsL_law0_r20, w ∈ lw_tbl := fb_in_of [121, 167, 168, 169, 170, 174, 175, 176, 177, 178, 179, 180, 181, 182, 183, 184, 185, 699, 700, 701, 702, 703, 705, 24] rfl
set_option maxRecDepth 100000 in
theorem in_wsL_law0_r21 : ∀ w ∈ wsL_law0_r21, w ∈ lw_tbl := fb_in_of [706, 707, 709, 25, 710, 711, 713, 26, 714, 489, 490, 491, 492, 493, 494, 495, 110, 112, 1, 113, 65, 715, 716, 717] rfl
set_option maxRecDepth 100000 in
theorem in_wsL_law0_r22 : ∀ w ∈ wsL_law0_r22, w ∈ lw_tbl := fb_in_of [718, 719, 721, 27, 722, 723, 725, 724, 39, 496, 497, 498, 499, 500, 501, 502, 503, 726, 727, 728, 729, 102, 103, 104] rfl
set_option maxRecDepth 100000 in
theorem in_wsL_law0_r23 : ∀ w ∈ wsL_law0_r23, w ∈ lw_tbl := fb_in_of [105, 106, 108, 0, 109, 118, 730, 731, 732, 733, 504, 505, 506, 507, 508, 509, 510, 511, 513, 5, 514, 734, 735, 736] rfl
set_option maxRecDepth 100000 in
theorem in_wsL_law0_r24 : ∀ w ∈ wsL_law0_r24, w ∈ lw_tbl := fb_in_of [737, 137, 138, 139, 140, 145, 147, 2, 148, 738, 739, 740, 741, 150, 151, 152, 153, 155, 154, 742, 743, 744, 745, 746] rfl
set_option maxRecDepth 100000 in
theorem in_wsL_law0_r25 : ∀ w ∈ wsL_law0_r25, w ∈ lw_tbl := fb_in_of [156, 157, 158, 159, 160, 161, 747, 748, 749, 750, 751, 752] rfl
theorem in_wsX10 : ∀ w ∈ wsX10, w ∈ lw_tbl := by decide +kernel
theorem in_wsX20 : ∀ w ∈ wsX20, w ∈ lw_tbl := by decide +kernel
theorem in_wsX00 : ∀ w ∈ wsX00, w ∈ lw_tbl := by decide +kernel
theorem wsL_law_in0 : ∀ w ∈ wsL_law0, w ∈ lw_tbl := fb_in_app (fb_in_app (fb_in_app (fb_in_app (fb_in_app in_wsL_law0_r1 (fb_in_app in_wsL_law0_r2 (fb_in_app in_wsL_law0_r3 (fb_in_app in_wsL_law0_r4 (fb_in_app in_wsL_law0_r5 (fb_in_app in_wsL_law0_r6 (fb_in_app in_wsL_law0_r7 (fb_in_app in_wsL_law0_r8 (fb_in_app in_wsL_law0_r9 (fb_in_app in_wsL_law0_r10 (fb_in_app in_wsL_law0_r11 (fb_in_app in_wsL_law0_r12 (fb_in_app in_wsL_law0_r13 (fb_in_app in_wsL_law0_r14 (fb_in_app in_wsL_law0_r15 (fb_in_app in_wsL_law0_r16 (fb_in_app in_wsL_law0_r17 (fb_in_app in_wsL_law0_r18 (fb_in_app in_wsL_law0_r19 (fb_in_app in_wsL_law0_r20 (fb_in_app in_wsL_law0_r21 (fb_in_app in_wsL_law0_r22 (fb_in_app in_wsL_law0_r23 (fb_in_app in_wsL_law0_r24 (in_wsL_law0_r25))))))))))))))))))))))))) in_wsX10) in_wsX20) in_wsX00) (fun _ h => absurd h List.not_mem_nil)
theorem wsL_law_x0 : ∀ w ∈ (vx_atS RX1 148 "java/lang/IndexOutOfBoundsException" ["java/lang/RuntimeException", "java/lang/Exception"]).filter goodWord, w ∈ lw_tbl := by decide +kernel
theorem wsL_law_x1 : ∀ w ∈ (vx_atS RX1 155 "java/lang/IllegalArgumentException" ["java/lang/RuntimeException", "java/lang/Exception"]).filter goodWord, w ∈ lw_tbl := by decide +kernel
theorem wsL_law_x2 : ∀ w ∈ (vx_atS RX1 66 "java/lang/IllegalStateException" ["java/lang/RuntimeException", "java/lang/Exception"]).filter goodWord, w ∈ lw_tbl := by decide +kernel
theorem wsL_law_in : ∀ w ∈ wsL_law, w ∈ lw_tbl := fun w h => (List.mem_append.mp h).elim (fun h => (List.mem_append.mp h).elim (fun h => (List.mem_append.mp h).elim (fun h => wsL_law_in0 w h) (fun h => wsL_law_x0 w h)) (fun h => wsL_law_x1 w h)) (fun h => wsL_law_x2 w h)
theorem inlX0 : ∀ w ∈ wsX00, w ∈ wsL_law := fun _ h => List.mem_append_left _ (List.mem_append_left _ (List.mem_append_left _ (List.mem_append_left _ (List.mem_append_right _ h))))
theorem inX0 : ∀ w ∈ wsX00, w ∈ lw_tbl := fun w h => wsL_law_in w (inlX0 w h)
theorem inlX1 : ∀ w ∈ wsX10, w ∈ wsL_law := fun _ h => List.mem_append_left _ (List.mem_append_left _ (List.mem_append_left _ (List.mem_append_left _ (List.mem_append_left _ (List.mem_append_left _ (List.mem_append_right _ h))))))
theorem inX1 : ∀ w ∈ wsX10, w ∈ lw_tbl := fun w h => wsL_law_in w (inlX1 w h)
theorem inlX2 : ∀ w ∈ wsX20, w ∈ wsL_law := fun _ h => List.mem_append_left _ (List.mem_append_left _ (List.mem_append_left _ (List.mem_append_left _ (List.mem_append_left _ (List.mem_append_right _ h)))))
theorem inX2 : ∀ w ∈ wsX20, w ∈ lw_tbl := fun w h => wsL_law_in w (inlX2 w h)
theorem inJ9 : ∀ w ∈ wsJ90, w ∈ lw_tbl := by decide +kernel
theorem inJ0 : ∀ w ∈ wsJ00, w ∈ lw_tbl := by decide +kernel
theorem inJ10 : ∀ w ∈ wsJ100, w ∈ lw_tbl := by decide +kernel
