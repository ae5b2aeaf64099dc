theorem in_ps {big ws : List Cond} (ps : List Nat) (hp : ws = ps.filterMap (fun i => big[i]?)) : ∀ w ∈ ws, w ∈ big := by
  intro w hw
  rw [hp] at hw
  obtain ⟨i, -, hi⟩ := List.mem_filterMap.mp hw
  exact List.mem_of_getElem? hi
set_option maxRecDepth 20000 in
theorem wsL_law_r1_in : ∀ w ∈ wsL_law_r1, w ∈ lw_tbl := in_ps [41, 42, 30, 545, 546, 38, 43, 44, 45, 46, 47, 48, 49, 50, 31, 170, 70, 71, 32, 171, 83, 84, 33, 172] rfl
set_option maxRecDepth 20000 in
theorem wsL_law_r2_in : ∀ w ∈ wsL_law_r2, w ∈ lw_tbl := in_ps [114, 115, 34, 173, 133, 134, 35, 174, 146, 147, 36, 175, 159, 160, 37, 176, 52, 53, 54, 68, 55, 56, 69, 57] rfl
set_option maxRecDepth 20000 in
theorem wsL_law_r3_in : ∀ w ∈ wsL_law_r3, w ∈ lw_tbl := in_ps [58, 73, 74, 75, 76, 77, 86, 87, 88, 89, 90, 91, 92, 93, 94, 95, 96, 117, 118, 119, 120, 121, 122, 123] rfl
set_option maxRecDepth 20000 in
theorem wsL_law_r4_in : ∀ w ∈ wsL_law_r4, w ∈ lw_tbl := in_ps [136, 137, 138, 139, 140, 149, 150, 151, 152, 153, 162, 163, 164, 169, 165, 547, 548, 549, 550, 553, 551, 602, 555, 556] rfl
set_option maxRecDepth 20000 in
theorem wsL_law_r5_in : ∀ w ∈ wsL_law_r5, w ∈ lw_tbl := in_ps [557, 558, 559, 561, 562, 563, 564, 552, 565, 566, 568, 192, 193, 194, 195, 196, 197, 198, 199, 200, 201, 202, 203, 204] rfl
set_option maxRecDepth 20000 in
theorem wsL_law_r6_in : ∀ w ∈ wsL_law_r6, w ∈ lw_tbl := in_ps [205, 206, 207, 208, 209, 210, 211, 212, 213, 214, 215, 603, 604, 605, 606, 560, 607, 609, 14, 610, 216, 217, 218, 219] rfl
set_option maxRecDepth 20000 in
theorem wsL_law_r7_in : ∀ w ∈ wsL_law_r7, w ∈ lw_tbl := in_ps [220, 265, 221, 222, 223, 224, 225, 226, 227, 228, 229, 230, 231, 232, 233, 235, 0, 236, 237, 239, 1, 240, 241, 242] rfl
set_option maxRecDepth 20000 in
theorem wsL_law_r8_in : ∀ w ∈ wsL_law_r8, w ∈ lw_tbl := in_ps [243, 244, 245, 246, 247, 248, 249, 250, 251, 252, 253, 255, 2, 256, 257, 258, 259, 260, 261, 262, 263, 264, 266, 267] rfl
set_option maxRecDepth 20000 in
theorem wsL_law_r9_in : ∀ w ∈ wsL_law_r9, w ∈ lw_tbl := in_ps [268, 269, 274, 275, 39, 276, 270, 272, 3, 273, 277, 279, 4, 280, 282, 281, 283, 285, 5, 286, 287, 288, 289, 290] rfl
set_option maxRecDepth 20000 in
theorem wsL_law_r10_in : ∀ w ∈ wsL_law_r10, w ∈ lw_tbl := in_ps [291, 292, 40, 293, 294, 295, 296, 297, 298, 299, 300, 301, 302, 611, 612, 613, 614, 619, 620, 641, 615, 617, 15, 618] rfl
set_option maxRecDepth 20000 in
theorem wsL_law_r11_in : ∀ w ∈ wsL_law_r11, w ∈ lw_tbl := in_ps [554, 621, 623, 16, 624, 625, 627, 17, 628, 629, 631, 18, 632, 633, 635, 19, 636, 637, 639, 20, 640, 642, 644, 21] rfl
set_option maxRecDepth 20000 in
theorem wsL_law_r12_in : ∀ w ∈ wsL_law_r12, w ∈ lw_tbl := in_ps [645, 303, 304, 305, 306, 307, 309, 6, 310, 311, 312, 313, 314, 315, 316, 317, 318, 319, 320, 321, 322, 323, 646, 647] rfl
set_option maxRecDepth 20000 in
theorem wsL_law_r13_in : ∀ w ∈ wsL_law_r13, w ∈ lw_tbl := in_ps [648, 649, 650, 652, 22, 653, 324, 325, 326, 327, 654, 655, 656, 657, 328, 329, 330, 331, 332, 333, 334, 335, 336, 337] rfl
set_option maxRecDepth 20000 in
theorem wsL_law_r14_in : ∀ w ∈ wsL_law_r14, w ∈ lw_tbl := in_ps [338, 339, 340, 341, 342, 343, 658, 659, 660, 661, 567, 662, 664, 23, 665, 344, 345, 346, 347, 348, 350, 7, 351, 352] rfl
set_option maxRecDepth 20000 in
theorem wsL_law_r15_in : ∀ w ∈ wsL_law_r15, w ∈ lw_tbl := in_ps [353, 354, 355, 356, 357, 358, 359, 360, 361, 362, 363, 364, 365, 366, 367, 368, 369, 370, 371, 372, 374, 8, 375, 376] rfl
set_option maxRecDepth 20000 in
theorem wsL_law_r16_in : ∀ w ∈ wsL_law_r16, w ∈ lw_tbl := in_ps [378, 9, 379, 380, 382, 10, 383, 666, 667, 668, 669, 670, 672, 24, 673, 674, 676, 25, 677, 384, 385, 386, 387, 388] rfl
set_option maxRecDepth 20000 in
theorem wsL_law_r17_in : ∀ w ∈ wsL_law_r17, w ∈ lw_tbl := in_ps [389, 390, 391, 392, 393, 394, 395, 396, 397, 398, 399, 400, 401, 402, 403, 404, 406, 11, 407, 408, 409, 410, 411, 412] rfl
set_option maxRecDepth 20000 in
theorem wsL_law_r18_in : ∀ w ∈ wsL_law_r18, w ∈ lw_tbl := in_ps [413, 414, 415, 416, 417, 418, 419, 420, 421, 422, 423, 424, 678, 679, 680, 681, 682, 684, 26, 685, 425, 426, 427, 428] rfl
set_option maxRecDepth 20000 in
theorem wsL_law_r19_in : ∀ w ∈ wsL_law_r19, w ∈ lw_tbl := in_ps [429, 430, 431, 432, 433, 434, 435, 436, 437, 686, 687, 688, 689, 438, 439, 440, 441, 442, 443, 444, 445, 446, 690, 691] rfl
set_option maxRecDepth 20000 in
theorem wsL_law_r20_in : ∀ w ∈ wsL_law_r20, w ∈ lw_tbl := in_ps [692, 693, 447, 448, 449, 450, 451, 452, 453, 454, 455, 694, 695, 696, 697, 456, 457, 458, 459, 460, 461, 462, 463, 698] rfl
set_option maxRecDepth 20000 in
theorem wsL_law_r21_in : ∀ w ∈ wsL_law_r21, w ∈ lw_tbl := in_ps [699, 700, 701, 464, 465, 466, 467, 702, 703, 704, 705, 468, 469, 470, 471, 472, 473, 474, 475, 476, 477, 478, 479, 480] rfl
set_option maxRecDepth 20000 in
theorem wsL_law_r22_in : ∀ w ∈ wsL_law_r22, w ∈ lw_tbl := in_ps [481, 482, 483, 706, 707, 708, 709, 484, 485, 486, 487, 488, 490, 12, 491, 492, 493, 494, 495, 496, 497, 498, 499, 500] rfl
set_option maxRecDepth 20000 in
theorem wsL_law_r23_in : ∀ w ∈ wsL_law_r23, w ∈ lw_tbl := in_ps [501, 502, 503, 504, 505, 506, 507, 508, 509, 510, 511, 512, 513, 514, 515, 516, 517, 519, 13, 520, 521, 710, 711, 712] rfl
set_option maxRecDepth 20000 in
theorem wsL_law_r24_in : ∀ w ∈ wsL_law_r24, w ∈ lw_tbl := in_ps [713, 714, 716, 27, 717, 522, 523, 524, 525, 526, 527, 528, 529, 718, 719, 720, 721, 722, 724, 28, 725, 530, 531, 532] rfl
set_option maxRecDepth 20000 in
theorem wsL_law_r25_in : ∀ w ∈ wsL_law_r25, w ∈ lw_tbl := in_ps [533, 538, 539, 540, 534, 535, 536, 537, 726, 727, 728, 729, 541, 542, 543, 544, 730, 731, 732, 733] rfl
set_option maxRecDepth 20000 in
theorem inX0 : ∀ w ∈ wsX00, w ∈ lw_tbl := in_ps [59, 61, 63, 65] rfl
set_option maxRecDepth 20000 in
theorem inX1 : ∀ w ∈ wsX10, w ∈ lw_tbl := in_ps [124, 126, 128, 130] rfl
set_option maxRecDepth 20000 in
theorem inX2 : ∀ w ∈ wsX20, w ∈ lw_tbl := in_ps [78, 80] rfl
set_option maxRecDepth 20000 in
theorem inX3 : ∀ w ∈ wsX30, w ∈ lw_tbl := in_ps [141, 143] rfl
set_option maxRecDepth 20000 in
theorem inX4 : ∀ w ∈ wsX40, w ∈ lw_tbl := in_ps [166] rfl
set_option maxRecDepth 20000 in
theorem inX5 : ∀ w ∈ wsX50, w ∈ lw_tbl := in_ps [154, 156] rfl
set_option maxRecDepth 20000 in
theorem inX6 : ∀ w ∈ wsX60, w ∈ lw_tbl := in_ps [97, 99, 101, 103, 105, 107, 109, 111] rfl
set_option maxRecDepth 20000 in
theorem inX7 : ∀ w ∈ wsX70, w ∈ lw_tbl := in_ps [177, 179, 181, 183, 185, 187, 189] rfl
set_option maxRecDepth 20000 in
theorem inX8 : ∀ w ∈ wsX80, w ∈ lw_tbl := in_ps [569, 571, 573, 575, 577, 579, 581, 583, 585, 587, 589, 591, 593, 595, 597, 599] rfl
theorem in_app {big a b : List Cond} (ha : ∀ w ∈ a, w ∈ big) (hb : ∀ w ∈ b, w ∈ big) : ∀ w ∈ a ++ b, w ∈ big := fun w h => (List.mem_append.mp h).elim (ha w) (hb w)
theorem wsL_law_in : ∀ w ∈ wsL_law, w ∈ lw_tbl := in_app (in_app (in_app (in_app (in_app (in_app (in_app (in_app (in_app (in_app (in_app wsL_law_r1_in (in_app wsL_law_r2_in (in_app wsL_law_r3_in (in_app wsL_law_r4_in (in_app wsL_law_r5_in (in_app wsL_law_r6_in (in_app wsL_law_r7_in (in_app wsL_law_r8_in (in_app wsL_law_r9_in (in_app wsL_law_r10_in (in_app wsL_law_r11_in (in_app wsL_law_r12_in (in_app wsL_law_r13_in (in_app wsL_law_r14_in (in_app wsL_law_r15_in (in_app wsL_law_r16_in (in_app wsL_law_r17_in (in_app wsL_law_r18_in (in_app wsL_law_r19_in (in_app wsL_law_r20_in (in_app wsL_law_r21_in (in_app wsL_law_r22_in (in_app wsL_law_r23_in (in_app wsL_law_r24_in (wsL_law_r25_in))))))))))))))))))))))))) inX7) inX8) inX0) inX2) inX6) inX1) inX3) inX5) inX4) (fun _ h => absurd h List.not_mem_nil)
theorem nest_9 : Cond.methodLinkNest RX7 9 yX0_init "UndoStore" ∈ lw_tbl := List.mem_of_getElem? (i := 51) rfl
theorem nest_18 : Cond.methodLinkNest RX7 18 yX2_init "UndoStore" ∈ lw_tbl := List.mem_of_getElem? (i := 72) rfl
theorem nest_25 : Cond.methodLinkNest RX7 25 yX6_init "UndoStore" ∈ lw_tbl := List.mem_of_getElem? (i := 85) rfl
theorem nest_32 : Cond.methodLinkNest RX7 32 yX1_init "UndoStore" ∈ lw_tbl := List.mem_of_getElem? (i := 116) rfl
theorem nest_39 : Cond.methodLinkNest RX7 39 yX3_init "UndoStore" ∈ lw_tbl := List.mem_of_getElem? (i := 135) rfl
theorem nest_46 : Cond.methodLinkNest RX7 46 yX5_init "UndoStore" ∈ lw_tbl := List.mem_of_getElem? (i := 148) rfl
theorem nest_53 : Cond.methodLinkNest RX7 53 yX4_init "UndoStore" ∈ lw_tbl := List.mem_of_getElem? (i := 161) rfl
