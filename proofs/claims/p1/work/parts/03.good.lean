set_option maxRecDepth 20000 in
theorem ggX0_init_X2_init : GoodIn wsX0_init wsX2_init := goodIn_r _ [38, 39, 2, 3, 40, 41, 42, 43, 44, 45, 46, 47, 48, 96, 97, 98, 99, 100, 101, 102] (by decide +kernel) (by decide +kernel)
set_option maxRecDepth 20000 in
theorem gX0_init_X2_init_n11 : GoodIn wsX0_init (wsX2_init) := ggX0_init_X2_init
set_option maxRecDepth 20000 in
theorem ggX0_init_X5_init : GoodIn wsX0_init wsX5_init := goodIn_r _ [50, 51, 2, 3, 40, 52, 53, 54, 55, 56, 57, 118, 119, 120, 121, 122, 123] (by decide +kernel) (by decide +kernel)
set_option maxRecDepth 20000 in
theorem gX0_init_X5_init_n42 : GoodIn wsX0_init (wsX5_init) := ggX0_init_X5_init
set_option maxRecDepth 20000 in
theorem ggX0_init_X9_init : GoodIn wsX0_init wsX9_init := goodIn_r _ [60, 61, 2, 3, 40, 62, 63, 64, 65, 66, 67, 124, 125, 126, 127, 128, 129] (by decide +kernel) (by decide +kernel)
set_option maxRecDepth 20000 in
theorem gX0_init_X9_init : GoodIn wsX0_init (wsX9_init) := ggX0_init_X9_init
set_option maxRecDepth 20000 in
theorem ggX0_init_X8_init : GoodIn wsX0_init wsX8_init := goodIn_r _ [70, 71, 2, 3, 72, 73, 74, 75, 130, 131, 132, 133] (by decide +kernel) (by decide +kernel)
set_option maxRecDepth 20000 in
theorem gX0_init_X8_init : GoodIn wsX0_init (wsX8_init) := ggX0_init_X8_init
set_option maxRecDepth 20000 in
theorem ggX0_init_X4_init : GoodIn wsX0_init wsX4_init := goodIn_r _ [78, 79, 2, 3, 80, 81, 82, 83, 84, 85, 134, 135, 136, 137, 138, 139] (by decide +kernel) (by decide +kernel)
set_option maxRecDepth 20000 in
theorem gX0_init_X4_init : GoodIn wsX0_init (wsX4_init) := ggX0_init_X4_init
set_option maxRecDepth 20000 in
theorem ggX0_init_X3_init : GoodIn wsX0_init wsX3_init := goodIn_r _ [88, 89, 2, 3, 90, 91, 92, 93, 94, 95, 140, 141, 142, 143, 144, 145] (by decide +kernel) (by decide +kernel)
set_option maxRecDepth 20000 in
theorem gX0_init_X3_init : GoodIn wsX0_init (wsX3_init) := ggX0_init_X3_init
set_option maxRecDepth 20000 in
theorem ggX0_tellText_X0_startText : GoodIn wsX0_tellText wsX0_startText := goodIn_r _ [12, 5, 4, 13, 3, 14, 15, 16, 17, 552, 553, 554, 555, 556, 557, 558, 559, 560, 561, 562, 563, 564, 565, 566, 571, 572, 573, 574, 575, 576, 577] (by decide +kernel) (by decide +kernel)
set_option maxRecDepth 20000 in
theorem gX0_tellText_X0_startText : GoodIn wsX0_tellText (wsV RX0 91 RX0 yX0_startText wsX0_startText) := goodIn_app (goodIn_of _ (by decide +kernel)) ggX0_tellText_X0_startText
set_option maxRecDepth 20000 in
theorem ggX0_tellText_X9_leaveTo : GoodIn wsX0_tellText wsX9_leaveTo := goodIn_r _ [57, 58, 59, 60, 61, 62, 63, 64, 65, 66, 67, 596, 597, 598, 599, 600, 601, 583, 584, 585, 586, 587, 588, 589, 590, 591, 592, 593, 594, 595] (by decide +kernel) (by decide +kernel)
set_option maxRecDepth 20000 in
theorem gX0_tellText_X9_leaveTo : GoodIn wsX0_tellText (wsV RX0 139 RX9 yX9_leaveTo wsX9_leaveTo) := goodIn_app (goodIn_of _ (by decide +kernel)) ggX0_tellText_X9_leaveTo
set_option maxRecDepth 20000 in
theorem ggX6_init_X6_addGiven : GoodIn wsX6_init wsX6_addGiven := goodIn_r _ [23, 24, 25, 26, 27, 28, 29, 30, 31, 32, 33, 34, 35, 36, 37, 38, 39, 40, 41, 42, 43, 44, 45, 46, 47, 48, 49, 50, 51, 52, 53, 54, 55, 56, 57, 58, 59, 60, 61, 62, 63, 64, 65, 66, 67, 68, 69, 70, 71, 72, 22, 73, 74, 75, 76, 77, 10, 5, 6, 8, 78, 79, 80, 81, 17, 12, 13, 14, 15, 82, 83, 84, 85, 86, 87, 88, 89, 90, 91, 92, 93, 94] (by decide +kernel) (by decide +kernel)
set_option maxRecDepth 20000 in
theorem gX6_init_X6_addGiven : GoodIn wsX6_init (wsV RX6 55 RX6 yX6_addGiven wsX6_addGiven) := goodIn_app (goodIn_of _ (by decide +kernel)) ggX6_init_X6_addGiven
set_option maxRecDepth 20000 in
theorem ggX6_addGiven_J0_toCharArray_70df3 : GoodIn wsX6_addGiven wsJ0_toCharArray_70df3 := goodIn_r _ [5, 6, 7, 8, 9, 4, 10, 11, 12, 13, 14, 15, 16, 17, 18, 19, 20, 21, 22, 23, 24, 25, 26, 27, 28, 29, 30, 31, 32, 33, 34, 35, 36, 37, 38, 39, 40, 41, 42, 43, 44, 45, 46, 47] (by decide +kernel) (by decide +kernel)
set_option maxRecDepth 20000 in
theorem gX6_addGiven_J0_toCharArray_70df3 : GoodIn wsX6_addGiven (wsV RX6 75 RJ0 yJ0_toCharArray_70df3 wsJ0_toCharArray_70df3) := goodIn_app (goodIn_of _ (by decide +kernel)) ggX6_addGiven_J0_toCharArray_70df3
set_option maxRecDepth 20000 in
theorem ggX6_addGiven_X6_half : GoodIn wsX6_addGiven wsX6_half := goodIn_r _ [51] (by decide +kernel) (by decide +kernel)
set_option maxRecDepth 20000 in
theorem gX6_addGiven_X6_half : GoodIn wsX6_addGiven (va_wsS RX6 81 yX6_half wsX6_half) := goodIn_app (goodIn_of _ (by decide +kernel)) ggX6_addGiven_X6_half
set_option maxRecDepth 20000 in
theorem ggX6_addGiven_X6_addSymbol : GoodIn wsX6_addGiven wsX6_addSymbol := goodIn_r _ [55, 56, 57, 58, 59, 60, 61, 62, 50, 63, 64, 65, 66, 67, 68, 69, 70, 71, 72, 73, 74, 75, 76, 77, 78, 79, 80, 81] (by decide +kernel) (by decide +kernel)
set_option maxRecDepth 20000 in
theorem gX6_addGiven_X6_addSymbol : GoodIn wsX6_addGiven (wsV RX6 85 RX6 yX6_addSymbol wsX6_addSymbol) := goodIn_app (goodIn_of _ (by decide +kernel)) ggX6_addGiven_X6_addSymbol
set_option maxRecDepth 20000 in
theorem ggX6_addSymbol_X6_addName : GoodIn wsX6_addSymbol wsX6_addName := goodIn_r _ [9, 10, 11, 12, 13, 14, 15, 16, 17, 18, 19, 20, 21, 22, 23, 24, 25, 26, 27] (by decide +kernel) (by decide +kernel)
set_option maxRecDepth 20000 in
theorem gX6_addSymbol_X6_addName : GoodIn wsX6_addSymbol (wsV RX6 95 RX6 yX6_addName wsX6_addName) := goodIn_app (goodIn_of _ (by decide +kernel)) ggX6_addSymbol_X6_addName
set_option maxRecDepth 20000 in
theorem ggX7_addForms_X7_tokenFrom : GoodIn wsX7_addForms wsX7_tokenFrom := goodIn_r _ [10] (by decide +kernel) (by decide +kernel)
set_option maxRecDepth 20000 in
theorem gX7_addForms_X7_tokenFrom : GoodIn wsX7_addForms (wsV RX7 27 RX7 yX7_tokenFrom wsX7_tokenFrom) := goodIn_app (goodIn_of _ (by decide +kernel)) ggX7_addForms_X7_tokenFrom
set_option maxRecDepth 20000 in
theorem ggX7_addForms_X7_tokenEnd : GoodIn wsX7_addForms wsX7_tokenEnd := goodIn_r _ [14, 15, 16, 9, 17] (by decide +kernel) (by decide +kernel)
set_option maxRecDepth 20000 in
theorem gX7_addForms_X7_tokenEnd : GoodIn wsX7_addForms (wsV RX7 31 RX7 yX7_tokenEnd wsX7_tokenEnd) := goodIn_app (goodIn_of _ (by decide +kernel)) ggX7_addForms_X7_tokenEnd
set_option maxRecDepth 20000 in
theorem ggX11_init_X6_init : GoodIn wsX11_init wsX6_init := goodIn_r _ [33, 34, 2, 3, 35, 36, 37, 38, 39, 40, 41, 42, 43, 44, 45, 46, 47, 48, 49, 50, 51, 52, 8, 53, 54, 55, 56, 57, 58, 59, 60, 61, 62, 63, 64, 65, 66, 67, 68, 69, 4, 70, 71, 72, 73, 74, 75, 76, 77, 78, 79, 80, 81, 82, 83, 84, 85, 86, 87, 88, 89, 90, 91, 92, 93, 94, 95, 96, 97, 98, 99, 100, 101, 102, 103, 104, 105, 106, 107, 108, 109, 110, 240, 241, 242, 243, 244, 245, 246, 247, 248, 249, 250, 251, 252] (by decide +kernel) (by decide +kernel)
set_option maxRecDepth 20000 in
theorem gX11_init_X6_init : GoodIn wsX11_init (wsX6_init) := ggX11_init_X6_init
set_option maxRecDepth 20000 in
theorem ggX11_init_X1_init : GoodIn wsX11_init wsX1_init := goodIn_r _ [112, 113, 2, 3, 38, 114, 115, 116, 117, 253, 254, 255, 256] (by decide +kernel) (by decide +kernel)
set_option maxRecDepth 20000 in
theorem gX11_init_X1_init_n22 : GoodIn wsX11_init (wsX1_init) := ggX11_init_X1_init
set_option maxRecDepth 20000 in
theorem ggX11_init_X10_init : GoodIn wsX11_init wsX10_init := goodIn_r _ [119, 120, 2, 3, 4, 121, 122, 123, 124, 125, 257, 258, 259, 260, 261] (by decide +kernel) (by decide +kernel)
set_option maxRecDepth 20000 in
theorem gX11_init_X10_init_n29 : GoodIn wsX11_init (wsX10_init) := ggX11_init_X10_init
set_option maxRecDepth 20000 in
theorem ggX11_init_X7_init : GoodIn wsX11_init wsX7_init := goodIn_r _ [128, 129, 2, 3, 38, 130, 131, 132, 133, 262, 263, 264, 265] (by decide +kernel) (by decide +kernel)
set_option maxRecDepth 20000 in
theorem gX11_init_X7_init : GoodIn wsX11_init (wsX7_init) := ggX11_init_X7_init
set_option maxRecDepth 20000 in
theorem ggX11_init_X0_init : GoodIn wsX11_init wsX0_init := goodIn_r _ [136, 137, 2, 3, 138, 139, 140, 141, 142, 143, 144, 145, 146, 147, 148, 149, 150, 151, 152, 153, 154, 155, 156, 157, 158, 159, 160, 161, 162, 163, 164, 165, 166, 167, 168, 169, 170, 171, 172, 173, 38, 174, 175, 176, 177, 178, 179, 180, 181, 182, 183, 184, 185, 186, 187, 188, 189, 190, 191, 192, 193, 194, 195, 196, 197, 198, 199, 200, 201, 202, 203, 204, 205, 206, 207, 208, 209, 210, 211, 212, 213, 214, 215, 216, 217, 218, 219, 220, 221, 222, 223, 224, 225, 226, 227, 228, 281, 282, 283, 284, 285, 286, 287, 266, 267, 268, 269, 270, 271, 272, 273, 274, 275, 276, 277, 278, 279, 280, 288, 289, 290, 291, 292, 293, 294, 295, 296, 297, 298, 299, 300, 301, 302, 303, 304, 305, 306, 307, 308, 309, 310, 311, 312, 313, 314, 315] (by decide +kernel) (by decide +kernel)
set_option maxRecDepth 20000 in
theorem gX11_init_X0_init : GoodIn wsX11_init (wsX0_init) := ggX11_init_X0_init
set_option maxRecDepth 20000 in
theorem ggX11_type_X11_byteOf : GoodIn wsX11_type wsX11_byteOf := goodIn_r _ [6] (by decide +kernel) (by decide +kernel)
set_option maxRecDepth 20000 in
theorem gX11_type_X11_byteOf : GoodIn wsX11_type (va_wsS RX11 68 yX11_byteOf wsX11_byteOf) := goodIn_app (goodIn_of _ (by decide +kernel)) ggX11_type_X11_byteOf
set_option maxRecDepth 20000 in
theorem ggX11_read_X6_startText : GoodIn wsX11_read wsX6_startText := goodIn_r _ [13, 14, 15, 16, 17, 18, 19, 20, 21, 22, 706, 707, 708, 709, 710, 711, 712, 713, 714, 715, 716, 717, 718] (by decide +kernel) (by decide +kernel)
set_option maxRecDepth 20000 in
theorem gX11_read_X6_startText : GoodIn wsX11_read (wsV RX11 75 RX6 yX6_startText wsX6_startText) := goodIn_app (goodIn_of _ (by decide +kernel)) ggX11_read_X6_startText
set_option maxRecDepth 20000 in
theorem ggX11_read_X1_startText : GoodIn wsX11_read wsX1_startText := goodIn_r _ [27, 28, 687, 688, 689, 690] (by decide +kernel) (by decide +kernel)
set_option maxRecDepth 20000 in
theorem gX11_read_X1_startText : GoodIn wsX11_read (wsV RX11 78 RX1 yX1_startText wsX1_startText) := goodIn_app (goodIn_of _ (by decide +kernel)) ggX11_read_X1_startText
set_option maxRecDepth 20000 in
theorem ggX11_read_X10_startText : GoodIn wsX11_read wsX10_startText := goodIn_r _ [33, 34, 719, 720, 721, 722, 723] (by decide +kernel) (by decide +kernel)
set_option maxRecDepth 20000 in
theorem gX11_read_X10_startText : GoodIn wsX11_read (wsV RX11 79 RX10 yX10_startText wsX10_startText) := goodIn_app (goodIn_of _ (by decide +kernel)) ggX11_read_X10_startText
set_option maxRecDepth 20000 in
theorem ggX11_read_X7_addForms : GoodIn wsX11_read wsX7_addForms := goodIn_r _ [39, 40, 41, 42, 43, 44, 45, 46, 47, 38, 48, 49, 50, 51, 52, 53, 54, 55, 56, 57, 58, 59, 60, 61, 62, 63, 64, 65, 66, 67, 68, 26, 69, 28, 70, 71, 72, 73, 74, 75, 76, 77, 78, 79, 80, 81, 82, 83, 84, 85, 86, 87, 88, 89, 90, 91, 92, 93, 94, 95, 96, 97, 98, 99, 100, 101, 102, 103, 12, 104, 105, 106, 107, 108, 14, 109, 110, 111, 112, 113, 114, 115, 116, 117, 118, 17, 119, 120, 121, 122, 15, 123, 124, 125, 126, 127, 128, 129, 724, 725, 726, 727, 687, 688, 689, 690, 706, 707, 708, 709, 710, 711, 712, 713, 714, 715, 716, 717, 718] (by decide +kernel) (by decide +kernel)
set_option maxRecDepth 20000 in
theorem gX11_read_X7_addForms : GoodIn wsX11_read (wsV RX11 80 RX7 yX7_addForms wsX7_addForms) := goodIn_app (goodIn_of _ (by decide +kernel)) ggX11_read_X7_addForms
set_option maxRecDepth 20000 in
theorem ggX11_read_X0_tellText : GoodIn wsX11_read wsX0_tellText := goodIn_r _ [134, 135, 136, 137, 138, 139, 140, 141, 142, 143, 144, 133, 145, 146, 147, 148, 149, 150, 151, 152, 153, 154, 155, 156, 157, 158, 159, 160, 161, 162, 163, 164, 165, 26, 166, 71, 167, 168, 169, 170, 171, 172, 173, 174, 32, 175, 176, 177, 178, 179, 34, 180, 181, 182, 183, 184, 185, 186, 187, 188, 189, 190, 191, 192, 193, 12, 194, 15, 195, 196, 197, 198, 14, 17, 199, 200, 201, 202, 203, 204, 205, 206, 207, 208, 209, 210, 211, 212, 213, 214, 215, 216, 217, 218, 219, 220, 221, 222, 70, 223, 224, 225, 226, 227, 228, 229, 230, 231, 232, 233, 234, 235, 236, 237, 238, 239, 240, 241, 242, 243, 244, 245, 246, 247, 248, 249, 250, 251, 252, 253, 254, 255, 256, 257, 258, 259, 260, 261, 262, 263, 264, 265, 266, 267, 268, 269, 270, 271, 272, 273, 274, 275, 276, 277, 278, 279, 280, 281, 282, 283, 284, 285, 286, 287, 288, 289, 290, 291, 292, 43, 293, 294, 295, 296, 297, 298, 299, 300, 301, 302, 303, 304, 305, 306, 307, 308, 309, 310, 311, 312, 313, 314, 315, 316, 317, 318, 319, 320, 321, 322, 323, 324, 325, 326, 327, 328, 329, 330, 331, 332, 333, 334, 335, 336, 337, 338, 339, 340, 341, 342, 126, 343, 344, 345, 346, 347, 348, 349, 350, 351, 352, 353, 354, 355, 356, 357, 358, 359, 360, 361, 362, 363, 364, 365, 366, 20, 21, 22, 367, 368, 369, 370, 371, 372, 373, 374, 375, 376, 377, 378, 379, 380, 381, 382, 383, 384, 385, 386, 387, 388, 389, 390, 391, 392, 393, 394, 395, 396, 397, 398, 399, 400, 401, 402, 403, 404, 405, 406, 407, 408, 409, 410, 123, 411, 412, 413, 414, 415, 416, 417, 418, 419, 420, 421, 422, 423, 424, 425, 426, 427, 428, 429, 430, 431, 432, 433, 434, 435, 436, 437, 438, 439, 440, 441, 442, 443, 444, 445, 446, 447, 448, 449, 450, 451, 452, 453, 454, 455, 456, 457, 458, 459, 460, 461, 462, 463, 464, 465, 466, 467, 468, 469, 470, 471, 472, 473, 474, 475, 476, 477, 478, 479, 480, 481, 482, 483, 484, 485, 486, 487, 488, 489, 490, 491, 492, 493, 494, 495, 496, 497, 498, 499, 42, 44, 500, 501, 502, 503, 504, 505, 506, 507, 508, 509, 510, 511, 512, 513, 514, 515, 516, 517, 518, 519, 520, 521, 522, 523, 524, 525, 526, 527, 528, 529, 530, 531, 28, 532, 533, 534, 535, 536, 537, 538, 539, 540, 541, 542, 543, 544, 545, 546, 547, 548, 549, 550, 124, 125, 551, 552, 553, 554, 555, 556, 557, 558, 559, 560, 561, 562, 563, 564, 565, 566, 567, 67, 68, 69, 568, 569, 570, 571, 572, 573, 574, 575, 576, 577, 578, 579, 580, 77, 78, 79, 581, 582, 583, 584, 585, 586, 120, 121, 122, 587, 588, 128, 129, 589, 590, 591, 592, 593, 594, 595, 596, 597, 598, 599, 600, 601, 602, 603, 604, 605, 606, 607, 608, 609, 610, 611, 612, 613, 614, 615, 616, 617, 618, 619, 620, 621, 622, 623, 624, 625, 626, 627, 628, 629, 630, 631, 632, 633, 634, 635, 636, 637, 638, 639, 640, 641, 642, 643, 644, 645, 646, 647, 648, 649, 650, 651, 652, 653, 691, 692, 693, 694, 695, 696, 697, 698, 699, 700, 701, 702, 703, 704, 705, 687, 688, 689, 690, 728, 729, 730, 731, 732, 733, 734, 719, 720, 721, 722, 723, 706, 707, 708, 709, 710, 711, 712, 713, 714, 715, 716, 717, 718, 735, 736, 737, 738, 739, 740, 741, 742, 743, 744, 745, 746, 747, 748, 749, 750, 751, 752, 753, 754, 755, 756, 757, 758, 759, 760, 761, 762] (by decide +kernel) (by decide +kernel)
set_option maxRecDepth 20000 in
theorem gX11_read_X0_tellText : GoodIn wsX11_read (wsV RX11 84 RX0 yX0_tellText wsX0_tellText) := goodIn_app (goodIn_of _ (by decide +kernel)) ggX11_read_X0_tellText
set_option maxRecDepth 20000 in
theorem ggX11_read_X11_takeText : GoodIn wsX11_read wsX11_takeText := goodIn_r _ [658, 3, 8, 659, 660, 661, 2, 662, 663, 664, 32, 665, 666, 180, 34, 667, 668, 669, 670, 12, 671, 16, 14, 676, 677, 678, 679, 680, 681, 682, 683, 684, 685, 686, 691, 692, 693, 694, 695, 696, 697, 698, 699, 700, 701, 702, 703, 704, 705, 719, 720, 721, 722, 723, 706, 707, 708, 709, 710, 711, 712, 713, 714, 715, 716, 717, 718] (by decide +kernel) (by decide +kernel)
set_option maxRecDepth 20000 in
theorem gX11_read_X11_takeText : GoodIn wsX11_read (wsV RX11 89 RX11 yX11_takeText wsX11_takeText) := goodIn_app (goodIn_of _ (by decide +kernel)) ggX11_read_X11_takeText
set_option maxRecDepth 20000 in
theorem ggX11_count_X6_macros : GoodIn wsX11_count wsX6_macros := goodIn_r _ [11, 12, 13, 34, 35, 36, 37, 38, 39, 40, 41, 42, 43, 44, 45, 46] (by decide +kernel) (by decide +kernel)
set_option maxRecDepth 20000 in
theorem gX11_count_X6_macros : GoodIn wsX11_count (wsV RX11 99 RX6 yX6_macros wsX6_macros) := goodIn_app (goodIn_of _ (by decide +kernel)) ggX11_count_X6_macros
set_option maxRecDepth 20000 in
theorem ggX11_character_X10_at : GoodIn wsX11_character wsX10_at := goodIn_r _ [6, 7, 8, 20, 21, 22, 23, 24] (by decide +kernel) (by decide +kernel)
set_option maxRecDepth 20000 in
theorem gX11_character_X10_at : GoodIn wsX11_character (wsV RX11 102 RX10 yX10_at wsX10_at) := goodIn_app (goodIn_of _ (by decide +kernel)) ggX11_character_X10_at
set_option maxRecDepth 20000 in
theorem ggX11_means_X7_tokenFrom : GoodIn wsX11_means wsX7_tokenFrom := goodIn_r _ [9] (by decide +kernel) (by decide +kernel)
set_option maxRecDepth 20000 in
theorem gX11_means_X7_tokenFrom : GoodIn wsX11_means (wsV RX11 106 RX7 yX7_tokenFrom wsX7_tokenFrom) := goodIn_app (goodIn_of _ (by decide +kernel)) ggX11_means_X7_tokenFrom
set_option maxRecDepth 20000 in
theorem ggX11_means_X7_tokenEnd : GoodIn wsX11_means wsX7_tokenEnd := goodIn_r _ [13, 14, 15, 8, 16] (by decide +kernel) (by decide +kernel)
set_option maxRecDepth 20000 in
theorem gX11_means_X7_tokenEnd : GoodIn wsX11_means (wsV RX11 110 RX7 yX7_tokenEnd wsX7_tokenEnd) := goodIn_app (goodIn_of _ (by decide +kernel)) ggX11_means_X7_tokenEnd
set_option maxRecDepth 20000 in
theorem ggX11_means_X7_isSymbol : GoodIn wsX11_means wsX7_isSymbol := goodIn_r _ [20, 14, 15, 8, 16, 21, 22, 23, 24, 25, 26, 27, 28, 29, 30, 31, 32, 33, 34, 35, 36, 37, 38, 39, 57, 58, 59, 60, 61, 62, 63, 64, 65, 66, 67, 68, 69, 70, 71, 72, 73] (by decide +kernel) (by decide +kernel)
set_option maxRecDepth 20000 in
theorem gX11_means_X7_isSymbol : GoodIn wsX11_means (wsV RX11 113 RX7 yX7_isSymbol wsX7_isSymbol) := goodIn_app (goodIn_of _ (by decide +kernel)) ggX11_means_X7_isSymbol
set_option maxRecDepth 20000 in
theorem ggX11_check_X10_canBeRead : GoodIn wsX11_check wsX10_canBeRead := goodIn_r _ [6, 7, 8, 20, 21, 22, 23, 24] (by decide +kernel) (by decide +kernel)
set_option maxRecDepth 20000 in
theorem gX11_check_X10_canBeRead : GoodIn wsX11_check (wsV RX11 123 RX10 yX10_canBeRead wsX10_canBeRead) := goodIn_app (goodIn_of _ (by decide +kernel)) ggX11_check_X10_canBeRead
set_option maxRecDepth 20000 in
theorem ggX11_takeText_X10_take : GoodIn wsX11_takeText wsX10_take := goodIn_r _ [11, 12, 13, 14, 15, 49, 50, 51, 52, 53] (by decide +kernel) (by decide +kernel)
set_option maxRecDepth 20000 in
theorem gX11_takeText_X10_take : GoodIn wsX11_takeText (wsV RX11 127 RX10 yX10_take wsX10_take) := goodIn_app (goodIn_of _ (by decide +kernel)) ggX11_takeText_X10_take
set_option maxRecDepth 20000 in
theorem ggX11_takeText_X6_take : GoodIn wsX11_takeText wsX6_take := goodIn_r _ [20, 21, 22, 54, 55, 56, 57, 58, 59, 60, 61, 62, 63, 64, 65, 66] (by decide +kernel) (by decide +kernel)
set_option maxRecDepth 20000 in
theorem gX11_takeText_X6_take : GoodIn wsX11_takeText (wsV RX11 132 RX6 yX6_take wsX6_take) := goodIn_app (goodIn_of _ (by decide +kernel)) ggX11_takeText_X6_take
set_option maxRecDepth 20000 in
theorem ggX12_init_X12_word : GoodIn wsX12_init wsX12_word := goodIn_r _ [66, 10, 67, 68, 69, 70, 65, 71, 8, 72, 73, 74, 75, 76, 77, 78, 79, 80, 81, 82, 83, 84, 85, 86, 87, 88, 89, 90, 91, 92, 93, 94, 95, 96, 97, 98, 99, 100, 101, 102, 103, 104, 105, 106, 107, 108, 109, 110, 111, 112, 113, 114, 115, 116, 117, 118, 119, 120, 121, 122, 123, 124, 125, 126, 127, 128, 129, 130, 131, 132, 133, 134, 135] (by decide +kernel) (by decide +kernel)
set_option maxRecDepth 20000 in
theorem gX12_init_X12_word : GoodIn wsX12_init (wsV RX12 133 RX12 yX12_word wsX12_word) := goodIn_app (goodIn_of _ (by decide +kernel)) ggX12_init_X12_word
set_option maxRecDepth 20000 in
theorem ggX12_init_X12_more : GoodIn wsX12_init wsX12_more := goodIn_r _ [71, 8, 10, 67, 72, 73, 74, 75, 76, 77, 78, 79, 80, 81, 82, 83, 84, 85, 86, 87, 88, 89, 90, 91, 92, 93, 94, 95, 96, 97, 98, 99, 100, 101, 102, 103, 104, 105, 106, 107, 108, 109, 110, 111, 112, 113, 114, 115, 116, 117, 118, 119, 120, 121, 122, 123, 124, 125, 126, 127, 128, 129, 130, 131, 132, 133, 134, 135] (by decide +kernel) (by decide +kernel)
set_option maxRecDepth 20000 in
theorem gX12_init_X12_more : GoodIn wsX12_init (wsV RX12 145 RX12 yX12_more wsX12_more) := goodIn_app (goodIn_of _ (by decide +kernel)) ggX12_init_X12_more
set_option maxRecDepth 20000 in
theorem ggX12_word_X12_more : GoodIn wsX12_word wsX12_more := goodIn_r _ [7, 8, 1, 2, 9, 10, 11, 12, 13, 14, 15, 16, 17, 18, 19, 20, 21, 22, 23, 24, 25, 26, 27, 28, 29, 30, 31, 32, 33, 34, 35, 36, 37, 38, 39, 40, 41, 42, 43, 44, 45, 46, 47, 48, 49, 50, 51, 52, 53, 54, 55, 56, 57, 58, 59, 60, 61, 62, 63, 64, 65, 66, 67, 68, 69, 70, 71, 72] (by decide +kernel) (by decide +kernel)
set_option maxRecDepth 20000 in
theorem gX12_word_X12_more : GoodIn wsX12_word (wsV RX12 145 RX12 yX12_more wsX12_more) := goodIn_app (goodIn_of _ (by decide +kernel)) ggX12_word_X12_more
set_option maxRecDepth 20000 in
theorem ggX12_read_X12_beginText : GoodIn wsX12_read wsX12_beginText := goodIn_r _ [23, 24, 25, 26, 27, 28, 29, 30, 31, 16, 14, 32, 10, 7, 9, 307, 308, 309, 310, 311, 312, 313, 314, 315, 316, 317, 318, 319, 320, 321, 322, 323, 324, 325, 326, 327, 328, 329, 330, 331, 332, 333, 334, 335, 336, 337, 338, 339, 340, 341, 342, 343, 344, 345, 346, 347, 348, 349, 350, 351, 352, 353, 354, 355, 356, 357, 358, 359, 360, 361, 362, 363, 364, 365, 366, 367, 368, 369, 370] (by decide +kernel) (by decide +kernel)
set_option maxRecDepth 20000 in
theorem gX12_read_X12_beginText : GoodIn wsX12_read (wsV RX12 408 RX12 yX12_beginText wsX12_beginText) := goodIn_app (goodIn_of _ (by decide +kernel)) ggX12_read_X12_beginText
set_option maxRecDepth 20000 in
theorem ggX12_read_X12_parse : GoodIn wsX12_read wsX12_parse := goodIn_r _ [36, 6, 5, 37, 38, 39, 40, 41, 22, 42, 27, 43, 8, 44, 45, 46, 47, 48, 25, 49, 50, 51, 52, 53, 54, 55, 56, 57, 58, 59, 60, 61, 62, 63, 64, 65, 307, 308, 309, 310, 311, 312, 313, 314, 315, 316, 317, 318, 319, 320, 321, 322, 323, 324, 325, 326, 327, 328, 329, 330, 331, 332, 333, 334, 335, 336, 337, 338, 339, 340, 341, 342, 343, 344, 345, 346, 347, 348, 349, 350, 351, 352, 353, 354, 355, 356, 357, 358, 359, 360, 361, 362, 363, 364, 365, 366, 367, 368, 369, 370] (by decide +kernel) (by decide +kernel)
set_option maxRecDepth 20000 in
theorem gX12_read_X12_parse : GoodIn wsX12_read (wsV RX12 411 RX12 yX12_parse wsX12_parse) := goodIn_app (goodIn_of _ (by decide +kernel)) ggX12_read_X12_parse
set_option maxRecDepth 20000 in
theorem ggX12_read_X12_stay : GoodIn wsX12_read wsX12_stay := goodIn_r _ [296, 297, 298, 132, 65, 4, 24, 133, 48, 50, 299, 300, 135, 26, 301, 49, 302, 43, 303, 304, 305, 22, 306, 138, 139, 140, 141, 134, 75, 76, 77, 78, 307, 308, 309, 310, 311, 312, 313, 314, 315, 316, 317, 318, 319, 320, 321, 322, 323, 324, 325, 326, 327, 328, 329, 330, 331, 332, 333, 334, 335, 336, 337, 338, 339, 340, 341, 342, 343, 344, 345, 346, 347, 348, 349, 350, 351, 352, 353, 354, 355, 356, 357, 358, 359, 360, 361, 362, 363, 364, 365, 366, 367, 368, 369, 370] (by decide +kernel) (by decide +kernel)
set_option maxRecDepth 20000 in
theorem gX12_read_X12_stay : GoodIn wsX12_read (wsV RX12 430 RX12 yX12_stay wsX12_stay) := goodIn_app (goodIn_of _ (by decide +kernel)) ggX12_read_X12_stay
set_option maxRecDepth 20000 in
theorem ggX12_means_X12_parse : GoodIn wsX12_means wsX12_parse := goodIn_r _ [15, 7, 6, 16, 17, 18, 19, 20, 14, 21, 5, 22, 8, 23, 24, 25, 26, 27, 3, 9, 28, 29, 30, 31, 32, 33, 34, 35, 36, 37, 38, 39, 40, 41, 42, 43, 48, 49, 50, 51, 52, 53, 54, 55, 56, 57, 58, 59, 60, 61, 62, 63, 64, 65, 66, 67, 68, 69, 70, 71, 72, 73, 74, 75, 76, 77, 78, 79, 80, 81, 82, 83, 84, 85, 86, 87, 88, 89, 90, 91, 92, 93, 94, 95, 96, 97, 98, 99, 100, 101, 102, 103, 104, 105, 106, 107, 108, 109, 110, 111] (by decide +kernel) (by decide +kernel)
set_option maxRecDepth 20000 in
theorem gX12_means_X12_parse : GoodIn wsX12_means (wsV RX12 411 RX12 yX12_parse wsX12_parse) := goodIn_app (goodIn_of _ (by decide +kernel)) ggX12_means_X12_parse
set_option maxRecDepth 20000 in
theorem ggJ0_toCharArray_70df3_J0_isLatin1_aae02 : GoodIn wsJ0_toCharArray_70df3 wsJ0_isLatin1_aae02 := goodIn_r _ [6, 7, 8] (by decide +kernel) (by decide +kernel)
set_option maxRecDepth 20000 in
theorem gJ0_toCharArray_70df3_J0_isLatin1_aae02 : GoodIn wsJ0_toCharArray_70df3 (wsV RJ0 492 RJ0 yJ0_isLatin1_aae02 wsJ0_isLatin1_aae02) := goodIn_app (goodIn_of _ (by decide +kernel)) ggJ0_toCharArray_70df3_J0_isLatin1_aae02
set_option maxRecDepth 20000 in
theorem ggJ0_toCharArray_70df3_J1_toChars_9d188 : GoodIn wsJ0_toCharArray_70df3 wsJ1_toChars_9d188 := goodIn_r _ [12, 13, 14, 15, 11, 16] (by decide +kernel) (by decide +kernel)
set_option maxRecDepth 20000 in
theorem gJ0_toCharArray_70df3_J1_toChars_9d188 : GoodIn wsJ0_toCharArray_70df3 (va_wsS RJ0 299 yJ1_toChars_9d188 wsJ1_toChars_9d188) := goodIn_app (goodIn_of _ (by decide +kernel)) ggJ0_toCharArray_70df3_J1_toChars_9d188
set_option maxRecDepth 20000 in
theorem ggJ1_toChars_9d188_J1_inflate_03870 : GoodIn wsJ1_toChars_9d188 wsJ1_inflate_03870 := goodIn_r _ [5] (by decide +kernel) (by decide +kernel)
set_option maxRecDepth 20000 in
theorem gJ1_toChars_9d188_J1_inflate_03870 : GoodIn wsJ1_toChars_9d188 (va_wsS RJ1 13 yJ1_inflate_03870 wsJ1_inflate_03870) := goodIn_app (goodIn_of _ (by decide +kernel)) ggJ1_toChars_9d188_J1_inflate_03870
set_option maxRecDepth 20000 in
theorem ggL_law_X11_init : GoodIn wsL_law wsX11_init := goodIn_r _ [9, 10, 11, 12, 13, 14, 15, 16, 17, 18, 19, 20, 21, 22, 23, 24, 25, 26, 27, 28, 29, 30, 31, 32, 33, 34, 35, 36, 37, 38, 39, 40, 41, 42, 43, 44, 45, 46, 47, 48, 49, 50, 51, 52, 53, 54, 55, 56, 57, 58, 59, 60, 61, 62, 63, 64, 65, 66, 67, 68, 69, 70, 71, 72, 73, 74, 75, 76, 77, 78, 79, 80, 81, 82, 83, 84, 85, 86, 87, 88, 89, 90, 91, 92, 93, 94, 95, 96, 97, 98, 99, 100, 101, 102, 103, 104, 105, 106, 107, 108, 109, 110, 111, 112, 113, 114, 115, 116, 117, 118, 119, 120, 121, 122, 123, 124, 125, 126, 127, 128, 129, 130, 131, 132, 133, 134, 135, 136, 137, 138, 139, 140, 141, 142, 143, 144, 145, 146, 147, 148, 149, 150, 151, 152, 153, 154, 155, 156, 157, 158, 159, 160, 161, 162, 163, 164, 165, 166, 167, 168, 169, 170, 171, 172, 173, 174, 175, 176, 177, 178, 179, 180, 181, 182, 183, 184, 185, 186, 187, 188, 189, 190, 191, 192, 193, 194, 195, 196, 197, 198, 199, 200, 201, 202, 203, 204, 205, 206, 207, 208, 209, 210, 211, 212, 213, 214, 215, 216, 217, 218, 219, 220, 221, 222, 223, 224, 225, 226, 227, 228, 229, 230, 231, 232, 233, 234, 235, 236, 237, 1217, 1218, 1219, 1220, 1221, 1222, 1223, 1224, 1225, 1226, 1227, 1292, 1293, 1294, 1295, 1296, 1297, 1298, 1299, 1300, 1301, 1302, 1303, 1304, 1305, 1306, 1307, 1308, 1309, 1310, 1311, 1312, 1313, 1314, 1315, 1316, 1317, 1318, 1319, 1320, 1321, 1322, 1323, 1324, 1325, 1326, 1327, 1328, 1329, 1330, 1331, 1332, 1333, 1334, 1335, 1336, 1337, 1338, 1339, 1340, 1341, 1342, 1343, 1344, 1345, 1346, 1347, 1348, 1349, 1350, 1351, 1352, 1353, 1354, 1355, 1356, 1357, 1358, 1359, 1360, 1361, 1362, 1363, 1364, 1365, 1366, 1367] (by decide +kernel) (by decide +kernel)
set_option maxRecDepth 20000 in
theorem gL_law_X11_init : GoodIn wsL_law (wsX11_init) := ggL_law_X11_init
set_option maxRecDepth 20000 in
theorem ggL_law_X12_init : GoodIn wsL_law wsX12_init := goodIn_r _ [240, 241, 11, 12, 242, 243, 244, 245, 246, 47, 247, 248, 249, 250, 251, 252, 253, 254, 255, 256, 257, 258, 259, 260, 261, 262, 263, 264, 265, 266, 267, 268, 269, 270, 271, 272, 185, 273, 274, 275, 276, 277, 278, 279, 280, 281, 282, 283, 284, 285, 286, 287, 288, 289, 290, 291, 292, 293, 294, 295, 296, 297, 298, 299, 300, 5, 301, 302, 303, 304, 305, 306, 1228, 1229, 1230, 1231, 1232, 1233, 1234, 1235, 1236, 1237, 1238, 1239, 1240, 1241, 1242, 1243, 1244, 1245, 1246, 1247, 1248, 1249, 1250, 1251, 1252, 1253, 1254, 1255, 1256, 1257, 1258, 1259, 1260, 1261, 1262, 1263, 1264, 1265, 1266, 1267, 1268, 1269, 1270, 1271, 1272, 1273, 1274, 1275, 1276, 1277, 1278, 1279, 1280, 1281, 1282, 1283, 1284, 1285, 1286, 1287, 1288, 1289, 1290, 1291] (by decide +kernel) (by decide +kernel)
set_option maxRecDepth 20000 in
theorem gL_law_X12_init : GoodIn wsL_law (wsX12_init) := ggL_law_X12_init
set_option maxRecDepth 20000 in
theorem ggL_law_X11_type : GoodIn wsL_law wsX11_type := goodIn_r _ [310, 35, 14, 311, 312, 2, 313, 1217, 1218, 1219, 1220, 1221, 1222, 1223, 1224, 1225, 1226, 1227] (by decide +kernel) (by decide +kernel)
set_option maxRecDepth 20000 in
theorem gL_law_X11_type : GoodIn wsL_law (wsV RL 15 RX11 yX11_type wsX11_type) := goodIn_app (goodIn_of _ (by decide +kernel)) ggL_law_X11_type
set_option maxRecDepth 20000 in
theorem ggL_law_X12_type : GoodIn wsL_law wsX12_type := goodIn_r _ [317, 318, 319, 320, 321, 322, 243, 1228, 1229, 1230, 1231, 1232, 1233, 1234, 1235, 1236, 1237, 1238, 1239, 1240, 1241, 1242, 1243, 1244, 1245, 1246, 1247, 1248, 1249, 1250, 1251, 1252, 1253, 1254, 1255, 1256, 1257, 1258, 1259, 1260, 1261, 1262, 1263, 1264, 1265, 1266, 1267, 1268, 1269, 1270, 1271, 1272, 1273, 1274, 1275, 1276, 1277, 1278, 1279, 1280, 1281, 1282, 1283, 1284, 1285, 1286, 1287, 1288, 1289, 1290, 1291] (by decide +kernel) (by decide +kernel)
set_option maxRecDepth 20000 in
theorem gL_law_X12_type : GoodIn wsL_law (wsV RL 19 RX12 yX12_type wsX12_type) := goodIn_app (goodIn_of _ (by decide +kernel)) ggL_law_X12_type
set_option maxRecDepth 20000 in
theorem ggL_law_X11_read : GoodIn wsL_law wsX11_read := goodIn_r _ [326, 22, 18, 26, 36, 30, 14, 35, 34, 327, 328, 329, 17, 330, 50, 57, 51, 48, 49, 331, 332, 333, 334, 335, 336, 337, 21, 338, 125, 339, 340, 341, 25, 342, 133, 343, 344, 345, 29, 346, 140, 347, 348, 349, 350, 351, 352, 353, 354, 355, 356, 357, 358, 359, 360, 361, 362, 363, 364, 365, 366, 367, 368, 369, 139, 141, 370, 371, 372, 373, 123, 124, 374, 375, 376, 377, 378, 379, 380, 381, 382, 383, 384, 385, 386, 387, 388, 389, 390, 391, 392, 393, 394, 395, 396, 397, 398, 399, 400, 401, 402, 142, 403, 110, 111, 404, 405, 406, 407, 45, 46, 408, 409, 410, 411, 412, 113, 114, 115, 116, 117, 118, 119, 52, 53, 54, 55, 413, 414, 415, 416, 417, 418, 33, 419, 161, 420, 153, 150, 151, 167, 163, 421, 422, 423, 424, 152, 154, 155, 156, 157, 425, 426, 427, 428, 429, 430, 431, 149, 432, 190, 183, 184, 433, 434, 435, 436, 437, 438, 439, 440, 162, 441, 442, 443, 444, 445, 446, 447, 448, 132, 134, 449, 450, 451, 166, 452, 208, 209, 204, 205, 453, 454, 455, 456, 457, 458, 459, 460, 461, 462, 463, 464, 465, 466, 467, 468, 469, 470, 471, 472, 473, 187, 188, 189, 474, 475, 476, 477, 478, 479, 480, 481, 482, 483, 484, 485, 486, 487, 488, 489, 490, 491, 492, 493, 494, 495, 496, 497, 498, 499, 500, 501, 502, 503, 504, 505, 506, 507, 508, 509, 510, 511, 512, 513, 514, 515, 516, 517, 518, 519, 520, 521, 522, 523, 524, 525, 526, 527, 528, 186, 529, 530, 531, 532, 171, 533, 534, 535, 170, 536, 215, 214, 217, 537, 538, 539, 540, 541, 542, 543, 544, 545, 546, 207, 206, 547, 548, 549, 550, 551, 552, 553, 554, 555, 556, 557, 558, 559, 560, 561, 562, 563, 564, 216, 565, 566, 567, 568, 58, 569, 570, 571, 572, 573, 574, 575, 576, 577, 578, 579, 580, 581, 582, 583, 584, 585, 586, 587, 588, 589, 590, 591, 592, 593, 594, 595, 56, 596, 597, 598, 599, 600, 601, 602, 603, 604, 605, 606, 607, 608, 609, 610, 611, 612, 126, 613, 614, 615, 616, 617, 618, 619, 620, 621, 622, 623, 624, 625, 626, 627, 628, 629, 630, 631, 632, 633, 634, 635, 636, 637, 638, 639, 640, 641, 642, 643, 644, 645, 646, 647, 648, 649, 650, 651, 652, 653, 654, 655, 656, 657, 658, 659, 660, 661, 662, 663, 664, 665, 666, 175, 179, 667, 668, 669, 670, 671, 672, 673, 674, 675, 676, 677, 174, 678, 224, 222, 223, 225, 227, 679, 680, 681, 682, 683, 684, 160, 685, 198, 199, 686, 687, 688, 689, 690, 691, 692, 693, 694, 695, 696, 697, 698, 699, 700, 701, 702, 703, 704, 705, 706, 707, 708, 194, 195, 196, 709, 710, 711, 712, 713, 197, 714, 715, 716, 717, 226, 718, 719, 720, 721, 722, 723, 724, 725, 726, 727, 728, 729, 730, 731, 732, 733, 178, 734, 235, 236, 232, 233, 234, 735, 736, 737, 738, 739, 740, 741, 742, 743, 744, 237, 745, 746, 747, 748, 749, 750, 751, 752, 753, 754, 755, 756, 757, 758, 759, 760, 761, 762, 763, 764, 765, 766, 47, 767, 768, 769, 770, 771, 772, 773, 774, 775, 776, 777, 778, 779, 780, 781, 782, 783, 784, 785, 786, 787, 788, 789, 790, 791, 792, 793, 794, 795, 796, 797, 798, 799, 800, 801, 802, 803, 804, 805, 806, 807, 808, 809, 810, 811, 812, 813, 814, 815, 816, 817, 818, 819, 820, 821, 822, 823, 824, 825, 826, 827, 828, 829, 830, 831, 832, 833, 834, 835, 836, 837, 838, 839, 840, 841, 842, 843, 844, 845, 846, 847, 848, 849, 850, 851, 852, 853, 854, 855, 856, 857, 858, 859, 860, 861, 862, 863, 864, 865, 866, 867, 868, 869, 870, 871, 872, 873, 874, 875, 876, 877, 878, 879, 2, 880, 37, 38, 39, 881, 882, 883, 884, 130, 131, 885, 886, 887, 888, 889, 890, 891, 892, 1217, 1218, 1219, 1220, 1221, 1222, 1223, 1224, 1225, 1226, 1227, 1305, 1306, 1307, 1308, 1318, 1319, 1320, 1321, 1322, 1323, 1324, 1325, 1326, 1327, 1328, 1329, 1330, 1331, 1332, 1292, 1293, 1294, 1295, 1296, 1297, 1298, 1299, 1300, 1301, 1302, 1303, 1304, 1309, 1310, 1311, 1312, 1313, 1314, 1315, 1316, 1317, 1333, 1334, 1335, 1336, 1337, 1338, 1339, 1346, 1347, 1348, 1349, 1350, 1351, 1352, 1353, 1354, 1355, 1356, 1357, 1358, 1359, 1360, 1361, 1340, 1341, 1342, 1343, 1344, 1345, 1362, 1363, 1364, 1365, 1366, 1367] (by decide +kernel) (by decide +kernel)
set_option maxRecDepth 20000 in
theorem gL_law_X11_read : GoodIn wsL_law (wsV RL 20 RX11 yX11_read wsX11_read) := goodIn_app (goodIn_of _ (by decide +kernel)) ggL_law_X11_read
set_option maxRecDepth 20000 in
theorem ggL_law_X12_read : GoodIn wsL_law wsX12_read := goodIn_r _ [896, 318, 897, 249, 248, 319, 898, 899, 270, 244, 900, 269, 268, 901, 902, 903, 904, 905, 906, 907, 908, 909, 5, 910, 911, 912, 913, 914, 915, 297, 916, 259, 917, 918, 919, 920, 921, 243, 271, 922, 923, 924, 925, 254, 926, 927, 928, 929, 251, 252, 253, 930, 931, 932, 933, 934, 935, 936, 937, 247, 246, 938, 939, 940, 941, 302, 942, 943, 944, 945, 946, 947, 948, 949, 950, 951, 952, 953, 954, 955, 956, 957, 958, 959, 960, 961, 962, 963, 964, 965, 966, 967, 968, 969, 970, 971, 972, 973, 974, 975, 976, 977, 978, 979, 980, 981, 982, 983, 984, 985, 986, 260, 258, 257, 256, 987, 988, 989, 990, 991, 992, 993, 994, 995, 996, 997, 998, 999, 1000, 1001, 1002, 1003, 1004, 274, 276, 275, 272, 273, 1005, 1006, 1007, 1008, 1009, 1010, 1011, 1012, 1013, 1014, 1015, 1016, 1017, 1018, 1019, 1020, 1021, 1022, 1023, 1024, 1025, 1026, 1027, 1028, 1029, 1030, 1031, 1032, 277, 1033, 1034, 1035, 1036, 1037, 1038, 1039, 1040, 1041, 1042, 1043, 1044, 264, 265, 266, 267, 1045, 1046, 1047, 1048, 1049, 1050, 1051, 1052, 1053, 1054, 1055, 1056, 1057, 1058, 1059, 1060, 261, 1061, 1062, 1063, 1064, 262, 1065, 1066, 1067, 1068, 1069, 1070, 1071, 1072, 1073, 1074, 1075, 1076, 1077, 1078, 1079, 1080, 1081, 1082, 1083, 1084, 279, 280, 278, 1085, 1086, 1087, 1088, 1089, 1090, 1091, 1092, 1093, 1094, 1095, 1096, 1097, 1098, 1099, 1100, 1101, 1102, 1103, 1104, 1105, 1106, 1107, 1108, 1109, 1110, 1111, 1112, 1113, 1114, 1115, 1116, 1117, 1118, 1119, 1120, 1121, 1122, 1123, 1124, 1125, 1126, 1127, 1128, 1129, 1130, 1131, 1132, 1133, 1134, 1135, 1136, 1137, 1138, 1139, 1140, 1141, 1142, 1143, 1144, 1145, 1146, 1147, 1148, 1149, 1150, 1151, 1152, 1153, 1154, 1155, 284, 282, 281, 283, 1156, 1157, 1158, 1159, 1228, 1229, 1230, 1231, 1232, 1233, 1234, 1235, 1236, 1237, 1238, 1239, 1240, 1241, 1242, 1243, 1244, 1245, 1246, 1247, 1248, 1249, 1250, 1251, 1252, 1253, 1254, 1255, 1256, 1257, 1258, 1259, 1260, 1261, 1262, 1263, 1264, 1265, 1266, 1267, 1268, 1269, 1270, 1271, 1272, 1273, 1274, 1275, 1276, 1277, 1278, 1279, 1280, 1281, 1282, 1283, 1284, 1285, 1286, 1287, 1288, 1289, 1290, 1291] (by decide +kernel) (by decide +kernel)
set_option maxRecDepth 20000 in
theorem gL_law_X12_read : GoodIn wsL_law (wsV RL 24 RX12 yX12_read wsX12_read) := goodIn_app (goodIn_of _ (by decide +kernel)) ggL_law_X12_read
set_option maxRecDepth 20000 in
theorem ggL_law_X11_place : GoodIn wsL_law wsX11_place := goodIn_r _ [1163, 36, 1217, 1218, 1219, 1220, 1221, 1222, 1223, 1224, 1225, 1226, 1227] (by decide +kernel) (by decide +kernel)
set_option maxRecDepth 20000 in
theorem gL_law_X11_place : GoodIn wsL_law (wsV RL 25 RX11 yX11_place wsX11_place) := goodIn_app (goodIn_of _ (by decide +kernel)) ggL_law_X11_place
set_option maxRecDepth 20000 in
theorem ggL_law_X12_place : GoodIn wsL_law wsX12_place := goodIn_r _ [1167, 318, 244, 1228, 1229, 1230, 1231, 1232, 1233, 1234, 1235, 1236, 1237, 1238, 1239, 1240, 1241, 1242, 1243, 1244, 1245, 1246, 1247, 1248, 1249, 1250, 1251, 1252, 1253, 1254, 1255, 1256, 1257, 1258, 1259, 1260, 1261, 1262, 1263, 1264, 1265, 1266, 1267, 1268, 1269, 1270, 1271, 1272, 1273, 1274, 1275, 1276, 1277, 1278, 1279, 1280, 1281, 1282, 1283, 1284, 1285, 1286, 1287, 1288, 1289, 1290, 1291] (by decide +kernel) (by decide +kernel)
set_option maxRecDepth 20000 in
theorem gL_law_X12_place : GoodIn wsL_law (wsV RL 28 RX12 yX12_place wsX12_place) := goodIn_app (goodIn_of _ (by decide +kernel)) ggL_law_X12_place
set_option maxRecDepth 20000 in
theorem ggL_law_X11_count : GoodIn wsL_law wsX11_count := goodIn_r _ [1171, 26, 37, 38, 39, 18, 22, 1172, 1173, 1174, 17, 1175, 50, 48, 1217, 1218, 1219, 1220, 1221, 1222, 1223, 1224, 1225, 1226, 1227, 1309, 1310, 1311, 1312, 1313, 1305, 1306, 1307, 1308, 1292, 1293, 1294, 1295, 1296, 1297, 1298, 1299, 1300, 1301, 1302, 1303, 1304] (by decide +kernel) (by decide +kernel)
set_option maxRecDepth 20000 in
theorem gL_law_X11_count : GoodIn wsL_law (wsV RL 29 RX11 yX11_count wsX11_count) := goodIn_app (goodIn_of _ (by decide +kernel)) ggL_law_X11_count
set_option maxRecDepth 20000 in
theorem ggL_law_X12_count : GoodIn wsL_law wsX12_count := goodIn_r _ [1179, 318, 302, 248, 901, 903, 905, 906, 897, 1228, 1229, 1230, 1231, 1232, 1233, 1234, 1235, 1236, 1237, 1238, 1239, 1240, 1241, 1242, 1243, 1244, 1245, 1246, 1247, 1248, 1249, 1250, 1251, 1252, 1253, 1254, 1255, 1256, 1257, 1258, 1259, 1260, 1261, 1262, 1263, 1264, 1265, 1266, 1267, 1268, 1269, 1270, 1271, 1272, 1273, 1274, 1275, 1276, 1277, 1278, 1279, 1280, 1281, 1282, 1283, 1284, 1285, 1286, 1287, 1288, 1289, 1290, 1291] (by decide +kernel) (by decide +kernel)
set_option maxRecDepth 20000 in
theorem gL_law_X12_count : GoodIn wsL_law (wsV RL 33 RX12 yX12_count wsX12_count) := goodIn_app (goodIn_of _ (by decide +kernel)) ggL_law_X12_count
set_option maxRecDepth 20000 in
theorem ggL_law_X11_character : GoodIn wsL_law wsX11_character := goodIn_r _ [1183, 26, 1184, 1185, 1186, 25, 1187, 131, 130, 1217, 1218, 1219, 1220, 1221, 1222, 1223, 1224, 1225, 1226, 1227, 1309, 1310, 1311, 1312, 1313] (by decide +kernel) (by decide +kernel)
set_option maxRecDepth 20000 in
theorem gL_law_X11_character : GoodIn wsL_law (wsV RL 34 RX11 yX11_character wsX11_character) := goodIn_app (goodIn_of _ (by decide +kernel)) ggL_law_X11_character
set_option maxRecDepth 20000 in
theorem ggL_law_X12_character : GoodIn wsL_law wsX12_character := goodIn_r _ [1191, 318, 901, 269, 1228, 1229, 1230, 1231, 1232, 1233, 1234, 1235, 1236, 1237, 1238, 1239, 1240, 1241, 1242, 1243, 1244, 1245, 1246, 1247, 1248, 1249, 1250, 1251, 1252, 1253, 1254, 1255, 1256, 1257, 1258, 1259, 1260, 1261, 1262, 1263, 1264, 1265, 1266, 1267, 1268, 1269, 1270, 1271, 1272, 1273, 1274, 1275, 1276, 1277, 1278, 1279, 1280, 1281, 1282, 1283, 1284, 1285, 1286, 1287, 1288, 1289, 1290, 1291] (by decide +kernel) (by decide +kernel)
set_option maxRecDepth 20000 in
theorem gL_law_X12_character : GoodIn wsL_law (wsV RL 37 RX12 yX12_character wsX12_character) := goodIn_app (goodIn_of _ (by decide +kernel)) ggL_law_X12_character
set_option maxRecDepth 20000 in
theorem ggL_law_X11_means : GoodIn wsL_law wsX11_means := goodIn_r _ [1195, 30, 14, 35, 18, 1196, 352, 353, 29, 354, 1197, 356, 357, 358, 359, 360, 361, 1198, 396, 397, 398, 385, 386, 387, 399, 400, 401, 402, 142, 403, 110, 17, 111, 404, 405, 406, 407, 50, 45, 46, 1199, 1200, 548, 549, 550, 48, 1217, 1218, 1219, 1220, 1221, 1222, 1223, 1224, 1225, 1226, 1227, 1314, 1315, 1316, 1317, 1292, 1293, 1294, 1295, 1296, 1297, 1298, 1299, 1300, 1301, 1302, 1303, 1304] (by decide +kernel) (by decide +kernel)
set_option maxRecDepth 20000 in
theorem gL_law_X11_means : GoodIn wsL_law (wsV RL 38 RX11 yX11_means wsX11_means) := goodIn_app (goodIn_of _ (by decide +kernel)) ggL_law_X11_means
set_option maxRecDepth 20000 in
theorem ggL_law_X12_means : GoodIn wsL_law wsX12_means := goodIn_r _ [1204, 318, 911, 912, 913, 914, 319, 898, 270, 252, 248, 918, 919, 920, 5, 921, 243, 271, 922, 923, 924, 925, 254, 926, 927, 928, 929, 251, 253, 930, 931, 932, 933, 934, 935, 936, 937, 247, 246, 938, 939, 940, 941, 302, 955, 956, 957, 958, 1228, 1229, 1230, 1231, 1232, 1233, 1234, 1235, 1236, 1237, 1238, 1239, 1240, 1241, 1242, 1243, 1244, 1245, 1246, 1247, 1248, 1249, 1250, 1251, 1252, 1253, 1254, 1255, 1256, 1257, 1258, 1259, 1260, 1261, 1262, 1263, 1264, 1265, 1266, 1267, 1268, 1269, 1270, 1271, 1272, 1273, 1274, 1275, 1276, 1277, 1278, 1279, 1280, 1281, 1282, 1283, 1284, 1285, 1286, 1287, 1288, 1289, 1290, 1291] (by decide +kernel) (by decide +kernel)
set_option maxRecDepth 20000 in
theorem gL_law_X12_means : GoodIn wsL_law (wsV RL 41 RX12 yX12_means wsX12_means) := goodIn_app (goodIn_of _ (by decide +kernel)) ggL_law_X12_means
set_option maxRecDepth 20000 in
theorem ggL_law_X11_check : GoodIn wsL_law wsX11_check := goodIn_r _ [1208, 26, 1209, 1210, 1211, 25, 1212, 131, 130, 1217, 1218, 1219, 1220, 1221, 1222, 1223, 1224, 1225, 1226, 1227, 1309, 1310, 1311, 1312, 1313] (by decide +kernel) (by decide +kernel)
set_option maxRecDepth 20000 in
theorem gL_law_X11_check : GoodIn wsL_law (wsV RL 42 RX11 yX11_check wsX11_check) := goodIn_app (goodIn_of _ (by decide +kernel)) ggL_law_X11_check
set_option maxRecDepth 20000 in
theorem ggL_law_X12_check : GoodIn wsL_law wsX12_check := goodIn_r _ [1216, 318, 1228, 1229, 1230, 1231, 1232, 1233, 1234, 1235, 1236, 1237, 1238, 1239, 1240, 1241, 1242, 1243, 1244, 1245, 1246, 1247, 1248, 1249, 1250, 1251, 1252, 1253, 1254, 1255, 1256, 1257, 1258, 1259, 1260, 1261, 1262, 1263, 1264, 1265, 1266, 1267, 1268, 1269, 1270, 1271, 1272, 1273, 1274, 1275, 1276, 1277, 1278, 1279, 1280, 1281, 1282, 1283, 1284, 1285, 1286, 1287, 1288, 1289, 1290, 1291] (by decide +kernel) (by decide +kernel)
set_option maxRecDepth 20000 in
theorem gL_law_X12_check : GoodIn wsL_law (wsV RL 45 RX12 yX12_check wsX12_check) := goodIn_app (goodIn_of _ (by decide +kernel)) ggL_law_X12_check
