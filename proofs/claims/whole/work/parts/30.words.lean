theorem at_in {big ws : List Cond} (ps : List Nat) (hp : ws = ps.filterMap (fun i => big[i]?)) : ∀ w ∈ ws, w ∈ big := by
  intro w hw
  rw [hp] at hw
  obtain ⟨i, -, hi⟩ := List.mem_filterMap.mp hw
  exact List.mem_of_getElem? hi
set_option maxRecDepth 20000 in
theorem in_wsL_law0_r1 : ∀ w ∈ wsL_law0_r1, w ∈ lw_tbl := at_in [35, 36, 24, 470, 471, 27, 75, 37, 38, 39, 40, 41, 42, 43, 44, 25, 119, 76, 77, 26, 120, 125, 46, 47] (by decide +kernel)
set_option maxRecDepth 20000 in
theorem in_wsL_law0_r2 : ∀ w ∈ wsL_law0_r2, w ∈ lw_tbl := at_in [48, 73, 51, 74, 52, 53, 54, 55, 56, 49, 57, 79, 80, 81, 82, 83, 84, 85, 86, 87, 88, 89, 90, 472] (by decide +kernel)
set_option maxRecDepth 20000 in
theorem in_wsL_law0_r3 : ∀ w ∈ wsL_law0_r3, w ∈ lw_tbl := at_in [473, 474, 475, 480, 481, 482, 483, 484, 485, 486, 490, 491, 492, 493, 494, 495, 496, 497, 498, 275, 276, 23, 277, 278] (by decide +kernel)
set_option maxRecDepth 20000 in
theorem in_wsL_law0_r4 : ∀ w ∈ wsL_law0_r4, w ∈ lw_tbl := at_in [279, 280, 281, 282, 283, 31, 124, 251, 252, 253, 346, 347, 348, 349, 350, 351, 352, 353, 354, 355, 356, 357, 553, 554] (by decide +kernel)
set_option maxRecDepth 20000 in
theorem in_wsL_law0_r5 : ∀ w ∈ wsL_law0_r5, w ∈ lw_tbl := at_in [555, 556, 557, 561, 562, 558, 559, 560, 563, 565, 11, 566, 476, 549, 550, 551, 552, 358, 359, 360, 361, 362, 363, 364] (by decide +kernel)
set_option maxRecDepth 20000 in
theorem in_wsL_law0_r6 : ∀ w ∈ wsL_law0_r6, w ∈ lw_tbl := at_in [365, 370, 32, 366, 368, 9, 369, 195, 196, 197, 198, 385, 386, 387, 388, 199, 201, 4, 202, 126, 567, 568, 569, 570] (by decide +kernel)
set_option maxRecDepth 20000 in
theorem in_wsL_law0_r7 : ∀ w ∈ wsL_law0_r7, w ∈ lw_tbl := at_in [571, 573, 12, 574, 575, 577, 13, 578, 487, 579, 581, 14, 582, 499, 389, 390, 391, 392, 393, 394, 395, 400, 121, 396] (by decide +kernel)
set_option maxRecDepth 20000 in
theorem in_wsL_law0_r8 : ∀ w ∈ wsL_law0_r8, w ∈ lw_tbl := at_in [397, 398, 399, 401, 402, 403, 404, 91, 405, 406, 407, 408, 211, 212, 33, 213, 409, 411, 10, 412, 413, 414, 415, 416] (by decide +kernel)
set_option maxRecDepth 20000 in
theorem in_wsL_law0_r9 : ∀ w ∈ wsL_law0_r9, w ∈ lw_tbl := at_in [183, 185, 2, 186, 583, 584, 585, 586, 587, 588, 589, 590, 477, 591, 593, 15, 594, 144, 145, 146, 147, 122, 148, 149] (by decide +kernel)
set_option maxRecDepth 20000 in
theorem in_wsL_law0_r10 : ∀ w ∈ wsL_law0_r10, w ∈ lw_tbl := at_in [150, 151, 152, 153, 154, 155, 156, 158, 0, 159, 160, 161, 162, 163, 164, 165, 166, 167, 168, 169, 170, 171, 172, 174] (by decide +kernel)
set_option maxRecDepth 20000 in
theorem in_wsL_law0_r11 : ∀ w ∈ wsL_law0_r11, w ∈ lw_tbl := at_in [1, 175, 176, 177, 178, 123, 179, 180, 181, 182, 92, 93, 187, 188, 189, 190, 191, 193, 3, 194, 203, 204, 205, 206] (by decide +kernel)
set_option maxRecDepth 20000 in
theorem in_wsL_law0_r12 : ∀ w ∈ wsL_law0_r12, w ∈ lw_tbl := at_in [207, 208, 209, 210, 214, 216, 5, 217, 218, 219, 220, 221, 222, 223, 224, 225, 226, 227, 228, 229, 230, 231, 232, 233] (by decide +kernel)
set_option maxRecDepth 20000 in
theorem in_wsL_law0_r13 : ∀ w ∈ wsL_law0_r13, w ∈ lw_tbl := at_in [234, 236, 6, 237, 238, 595, 596, 597, 598, 488, 599, 601, 16, 602, 603, 605, 17, 606, 607, 609, 18, 610, 611, 613] (by decide +kernel)
set_option maxRecDepth 20000 in
theorem in_wsL_law0_r14 : ∀ w ∈ wsL_law0_r14, w ∈ lw_tbl := at_in [19, 614, 615, 617, 20, 618, 619, 621, 21, 622, 478, 623, 624, 626, 22, 627, 479, 489, 628, 417, 418, 419, 420, 421] (by decide +kernel)
set_option maxRecDepth 20000 in
theorem in_wsL_law0_r15 : ∀ w ∈ wsL_law0_r15, w ∈ lw_tbl := at_in [422, 423, 629, 630, 631, 632, 424, 425, 426, 427, 428, 429, 430, 431, 436, 34, 432, 433, 434, 435, 451, 633, 634, 635] (by decide +kernel)
set_option maxRecDepth 20000 in
theorem in_wsL_law0_r16 : ∀ w ∈ wsL_law0_r16, w ∈ lw_tbl := at_in [636, 239, 240, 241, 242, 243, 244, 245, 246, 637, 638, 639, 640, 452, 453, 454, 455, 456, 457, 458, 641, 642, 643, 644] (by decide +kernel)
set_option maxRecDepth 20000 in
theorem in_wsL_law0_r17 : ∀ w ∈ wsL_law0_r17, w ∈ lw_tbl := at_in [459, 460, 461, 462, 463, 464, 465, 466, 467, 468, 469, 645, 646, 647, 648, 247, 248, 249, 250, 254, 255, 256, 257, 258] (by decide +kernel)
set_option maxRecDepth 20000 in
theorem in_wsL_law0_r18 : ∀ w ∈ wsL_law0_r18, w ∈ lw_tbl := at_in [260, 7, 261, 274, 262, 263, 264, 265, 266, 267, 268, 269, 270, 271, 272, 273, 649, 650, 651, 652, 653, 654, 655, 656] (by decide +kernel)
set_option maxRecDepth 20000 in
theorem in_wsL_law0_r19 : ∀ w ∈ wsL_law0_r19, w ∈ lw_tbl := at_in [657] (by decide +kernel)
set_option maxRecDepth 20000 in
theorem in_wsX00 : ∀ w ∈ wsX00, w ∈ lw_tbl := by decide +kernel
set_option maxRecDepth 20000 in
theorem in_wsX10 : ∀ w ∈ wsX10, w ∈ lw_tbl := by decide +kernel
set_option maxRecDepth 20000 in
theorem in_wsX20 : ∀ w ∈ wsX20, w ∈ lw_tbl := by decide +kernel
set_option maxRecDepth 20000 in
theorem in_wsX30 : ∀ w ∈ wsX30, w ∈ lw_tbl := by decide +kernel
theorem or_in {a b big : List Cond} (h1 : ∀ w ∈ a, w ∈ big) (h2 : ∀ w ∈ b, w ∈ big) : ∀ w ∈ a ++ b, w ∈ big := fun w h => (List.mem_append.mp h).elim (h1 w) (h2 w)
theorem wsL_law_in0 : ∀ w ∈ wsL_law0, w ∈ lw_tbl := or_in (or_in (or_in (or_in (or_in (or_in in_wsL_law0_r1 (or_in in_wsL_law0_r2 (or_in in_wsL_law0_r3 (or_in in_wsL_law0_r4 (or_in in_wsL_law0_r5 (or_in in_wsL_law0_r6 (or_in in_wsL_law0_r7 (or_in in_wsL_law0_r8 (or_in in_wsL_law0_r9 (or_in in_wsL_law0_r10 (or_in in_wsL_law0_r11 (or_in in_wsL_law0_r12 (or_in in_wsL_law0_r13 (or_in in_wsL_law0_r14 (or_in in_wsL_law0_r15 (or_in in_wsL_law0_r16 (or_in in_wsL_law0_r17 (or_in in_wsL_law0_r18 in_wsL_law0_r19)))))))))))))))))) in_wsX20) in_wsX30) in_wsX00) in_wsX10) (fun w h => absurd h List.not_mem_nil)
