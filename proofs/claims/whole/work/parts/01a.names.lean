theorem mem_r {big : List Cond} (ws : List Cond) (ps : List Nat) (hp : ws = ps.filterMap (fun i => big[i]?)) : ∀ w ∈ ws, w ∈ big := by
  intro w hw
  rw [hp] at hw
  obtain ⟨i, -, hi⟩ := List.mem_filterMap.mp hw
  first | exact List.mem_of_getElem? hi | exact List.getElem?_mem hi
set_option maxRecDepth 20000 in
theorem in_wsL_law_r1 : ∀ w ∈ wsL_law_r1, w ∈ lw_tbl := mem_r _ [74, 75, 70, 379, 380, 73, 76, 77, 78, 79, 80, 81, 82, 83, 71, 156, 169, 157, 85, 86, 87, 114, 115, 88] (by decide +kernel)
set_option maxRecDepth 20000 in
theorem in_wsL_law_r2 : ∀ w ∈ wsL_law_r2, w ∈ lw_tbl := mem_r _ [89, 72, 116, 91, 92, 93, 123, 124, 125, 126, 158, 159, 131, 129, 0, 130, 94, 95, 96, 97, 98, 99, 134, 1] (by decide +kernel)
set_option maxRecDepth 20000 in
theorem in_wsL_law_r3 : ∀ w ∈ wsL_law_r3, w ∈ lw_tbl := mem_r _ [135, 150, 136, 137, 138, 139, 140, 141, 142, 145, 2, 146, 147, 148, 149, 151, 153, 3, 154, 155, 381, 382, 383, 384] (by decide +kernel)
set_option maxRecDepth 20000 in
theorem in_wsL_law_r4 : ∀ w ∈ wsL_law_r4, w ∈ lw_tbl := mem_r _ [385, 434, 406, 407, 408, 386, 387, 388, 389, 409, 410, 411, 390, 391, 393, 37, 394, 401, 395, 396, 397, 398, 399, 400] (by decide +kernel)
set_option maxRecDepth 20000 in
theorem in_wsL_law_r5 : ∀ w ∈ wsL_law_r5, w ∈ lw_tbl := mem_r _ [402, 404, 38, 405, 170, 435, 171, 172, 173, 174, 175, 178, 4, 179, 181, 180, 184, 5, 185, 186, 188, 6, 189, 190] (by decide +kernel)
set_option maxRecDepth 20000 in
theorem in_wsL_law_r6 : ∀ w ∈ wsL_law_r6, w ∈ lw_tbl := mem_r _ [191, 583, 584, 585, 586, 587, 588, 589, 452, 461, 462, 463, 464, 192, 193, 194, 195, 198, 7, 199, 590, 591, 592, 593] (by decide +kernel)
set_option maxRecDepth 20000 in
theorem in_wsL_law_r7 : ∀ w ∈ wsL_law_r7, w ∈ lw_tbl := mem_r _ [516, 518, 55, 519, 200, 201, 202, 203, 204, 206, 8, 207, 241, 208, 210, 9, 211, 212, 214, 10, 215, 216, 218, 11] (by decide +kernel)
set_option maxRecDepth 20000 in
theorem in_wsL_law_r8 : ∀ w ∈ wsL_law_r8, w ∈ lw_tbl := mem_r _ [219, 222, 12, 223, 224, 227, 13, 228, 229, 230, 232, 14, 233, 234, 235, 236, 239, 15, 240, 242, 244, 16, 245, 246] (by decide +kernel)
set_option maxRecDepth 20000 in
theorem in_wsL_law_r9 : ∀ w ∈ wsL_law_r9, w ∈ lw_tbl := mem_r _ [247, 248, 249, 250, 252, 17, 253, 254, 256, 18, 257, 258, 259, 261, 19, 262, 263, 265, 20, 266, 267, 269, 21, 270] (by decide +kernel)
set_option maxRecDepth 20000 in
theorem in_wsL_law_r10 : ∀ w ∈ wsL_law_r10, w ∈ lw_tbl := mem_r _ [271, 273, 22, 274, 275, 277, 23, 278, 279, 280, 281, 282, 284, 24, 285, 286, 288, 25, 289, 290, 292, 26, 293, 294] (by decide +kernel)
set_option maxRecDepth 20000 in
theorem in_wsL_law_r11 : ∀ w ∈ wsL_law_r11, w ∈ lw_tbl := mem_r _ [296, 27, 297, 298, 299, 300, 301, 303, 305, 307, 308, 309, 310, 312, 314, 28, 315, 316, 318, 29, 319, 320, 322, 30] (by decide +kernel)
set_option maxRecDepth 20000 in
theorem in_wsL_law_r12 : ∀ w ∈ wsL_law_r12, w ∈ lw_tbl := mem_r _ [323, 324, 326, 31, 327, 328, 330, 32, 331, 332, 334, 33, 335, 336, 338, 34, 339, 340, 342, 352, 344, 346, 35, 347] (by decide +kernel)
set_option maxRecDepth 20000 in
theorem in_wsL_law_r13 : ∀ w ∈ wsL_law_r13, w ∈ lw_tbl := mem_r _ [348, 350, 36, 351, 436, 437, 438, 439, 414, 440, 442, 39, 443, 444, 446, 40, 447, 479, 448, 450, 41, 451, 453, 455] (by decide +kernel)
set_option maxRecDepth 20000 in
theorem in_wsL_law_r14 : ∀ w ∈ wsL_law_r14, w ∈ lw_tbl := mem_r _ [42, 456, 457, 459, 43, 460, 465, 467, 44, 468, 469, 471, 45, 472, 473, 474, 475, 477, 46, 478, 480, 482, 47, 483] (by decide +kernel)
set_option maxRecDepth 20000 in
theorem in_wsL_law_r15 : ∀ w ∈ wsL_law_r15, w ∈ lw_tbl := mem_r _ [484, 485, 486, 487, 488, 490, 48, 491, 492, 494, 49, 495, 412, 413, 496, 498, 50, 499, 500, 502, 51, 503, 504, 506] (by decide +kernel)
set_option maxRecDepth 20000 in
theorem in_wsL_law_r16 : ∀ w ∈ wsL_law_r16, w ∈ lw_tbl := mem_r _ [52, 507, 508, 510, 53, 511, 512, 514, 54, 515, 520, 522, 56, 523, 524, 526, 57, 527, 528, 530, 58, 531, 532, 534] (by decide +kernel)
set_option maxRecDepth 20000 in
theorem in_wsL_law_r17 : ∀ w ∈ wsL_law_r17, w ∈ lw_tbl := mem_r _ [59, 535, 536, 538, 60, 539, 540, 542, 61, 543, 544, 546, 62, 547, 548, 550, 63, 551, 552, 553, 554, 555, 556, 557] (by decide +kernel)
set_option maxRecDepth 20000 in
theorem in_wsL_law_r18 : ∀ w ∈ wsL_law_r18, w ∈ lw_tbl := mem_r _ [558, 560, 64, 561, 562, 564, 65, 565, 566, 568, 66, 569, 570, 572, 67, 573, 574, 576, 68, 577, 354, 355, 356, 357] (by decide +kernel)
set_option maxRecDepth 20000 in
theorem in_wsL_law_r19 : ∀ w ∈ wsL_law_r19, w ∈ lw_tbl := mem_r _ [358, 578, 579, 580, 581, 582, 359, 360, 361, 362, 594, 595, 596, 597, 363, 364, 365, 366, 598, 599, 600, 601, 367, 368] (by decide +kernel)
set_option maxRecDepth 20000 in
theorem in_wsL_law_r20 : ∀ w ∈ wsL_law_r20, w ∈ lw_tbl := mem_r _ [369, 370, 602, 603, 604, 605, 371, 372, 373, 374, 606, 607, 608, 609, 375, 376, 377, 378, 610, 611, 612, 613] (by decide +kernel)
set_option maxRecDepth 20000 in
theorem in_wsX20 : ∀ w ∈ wsX20, w ∈ lw_tbl := mem_r _ [160, 162, 164, 166] (by decide +kernel)
set_option maxRecDepth 20000 in
theorem in_wsX30 : ∀ w ∈ wsX30, w ∈ lw_tbl := mem_r _ [415, 417, 419, 421, 423, 425, 427, 429, 431] (by decide +kernel)
set_option maxRecDepth 20000 in
theorem in_wsX00 : ∀ w ∈ wsX00, w ∈ lw_tbl := mem_r _ [118, 120] (by decide +kernel)
set_option maxRecDepth 20000 in
theorem in_wsX10 : ∀ w ∈ wsX10, w ∈ lw_tbl := mem_r _ [101, 103, 105, 107, 109, 111] (by decide +kernel)
theorem wsL_law_in : ∀ w ∈ wsL_law, w ∈ lw_tbl := fun w h => (List.mem_append.mp h).elim (fun h => (List.mem_append.mp h).elim (fun h => (List.mem_append.mp h).elim (fun h => (List.mem_append.mp h).elim (fun h => (List.mem_append.mp h).elim (fun h => (List.mem_append.mp h).elim (fun h => in_wsL_law_r1 w h) (fun h => (List.mem_append.mp h).elim (fun h => in_wsL_law_r2 w h) (fun h => (List.mem_append.mp h).elim (fun h => in_wsL_law_r3 w h) (fun h => (List.mem_append.mp h).elim (fun h => in_wsL_law_r4 w h) (fun h => (List.mem_append.mp h).elim (fun h => in_wsL_law_r5 w h) (fun h => (List.mem_append.mp h).elim (fun h => in_wsL_law_r6 w h) (fun h => (List.mem_append.mp h).elim (fun h => in_wsL_law_r7 w h) (fun h => (List.mem_append.mp h).elim (fun h => in_wsL_law_r8 w h) (fun h => (List.mem_append.mp h).elim (fun h => in_wsL_law_r9 w h) (fun h => (List.mem_append.mp h).elim (fun h => in_wsL_law_r10 w h) (fun h => (List.mem_append.mp h).elim (fun h => in_wsL_law_r11 w h) (fun h => (List.mem_append.mp h).elim (fun h => in_wsL_law_r12 w h) (fun h => (List.mem_append.mp h).elim (fun h => in_wsL_law_r13 w h) (fun h => (List.mem_append.mp h).elim (fun h => in_wsL_law_r14 w h) (fun h => (List.mem_append.mp h).elim (fun h => in_wsL_law_r15 w h) (fun h => (List.mem_append.mp h).elim (fun h => in_wsL_law_r16 w h) (fun h => (List.mem_append.mp h).elim (fun h => in_wsL_law_r17 w h) (fun h => (List.mem_append.mp h).elim (fun h => in_wsL_law_r18 w h) (fun h => (List.mem_append.mp h).elim (fun h => in_wsL_law_r19 w h) (fun h => in_wsL_law_r20 w h)))))))))))))))))))) (fun h => in_wsX20 w h)) (fun h => in_wsX30 w h)) (fun h => in_wsX00 w h)) (fun h => in_wsX10 w h)) (fun h => absurd h List.not_mem_nil)
theorem inlX0 : ∀ w ∈ wsX00, w ∈ wsL_law := fun _ h => List.mem_append_left _ (List.mem_append_left _ (List.mem_append_right _ h))
theorem inX0 : ∀ w ∈ wsX00, w ∈ lw_tbl := fun w h => wsL_law_in w (inlX0 w h)
theorem inlX1 : ∀ w ∈ wsX10, w ∈ wsL_law := fun _ h => List.mem_append_left _ (List.mem_append_right _ h)
theorem inX1 : ∀ w ∈ wsX10, w ∈ lw_tbl := fun w h => wsL_law_in w (inlX1 w h)
theorem inlX2 : ∀ w ∈ wsX20, w ∈ wsL_law := fun _ h => List.mem_append_left _ (List.mem_append_left _ (List.mem_append_left _ (List.mem_append_left _ (List.mem_append_right _ h))))
theorem inX2 : ∀ w ∈ wsX20, w ∈ lw_tbl := fun w h => wsL_law_in w (inlX2 w h)
theorem inlX3 : ∀ w ∈ wsX30, w ∈ wsL_law := fun _ h => List.mem_append_left _ (List.mem_append_left _ (List.mem_append_left _ (List.mem_append_right _ h)))
theorem inX3 : ∀ w ∈ wsX30, w ∈ lw_tbl := fun w h => wsL_law_in w (inlX3 w h)
