set_option maxRecDepth 20000 in
theorem gg9_begun_wsX50 : GoodIn wsL_law wsX50 := goodIn_r _ [668, 669, 670] (by decide +kernel) (by decide +kernel)
set_option maxRecDepth 20000 in
theorem gg9_wsL_isDone_r1 : GoodIn wsL_law (Cond.code yL_isDone cL_isDone 11 (some .boolean) :: wsL_isDone_r1) := goodIn_r _ [568, 2, 94, 95, 6, 96, 97, 98, 99, 100, 101, 102, 281, 282, 283, 3, 284, 285, 286, 287, 288, 289, 192, 106, 290] (by decide +kernel) (by decide +kernel)
set_option maxRecDepth 20000 in
theorem gg9_wsL_isDone_r2 : GoodIn wsL_law wsL_isDone_r2 := goodIn_r _ [291, 292, 10, 293, 111, 112, 40, 230, 231, 232, 207, 208, 233, 234, 235, 294, 295, 296, 297, 298, 299, 300, 267, 268] (by decide +kernel) (by decide +kernel)
set_option maxRecDepth 20000 in
theorem gg9_wsL_isDone_r3 : GoodIn wsL_law wsL_isDone_r3 := goodIn_r _ [301, 302, 303, 304, 15, 16, 305, 306, 307, 308, 209, 210, 211, 212, 25, 213, 116, 117, 118, 24, 119, 120, 214, 215] (by decide +kernel) (by decide +kernel)
set_option maxRecDepth 20000 in
theorem gg9_wsL_isDone_r4 : GoodIn wsL_law wsL_isDone_r4 := goodIn_r _ [216, 217, 218, 219, 220, 221, 222, 223, 224, 225, 226, 227, 228, 229, 50, 309, 310, 311, 115, 312, 127, 243, 256, 131] (by decide +kernel) (by decide +kernel)
set_option maxRecDepth 20000 in
theorem gg9_wsL_isDone_r5 : GoodIn wsL_law wsL_isDone_r5 := goodIn_r _ [132, 133, 134, 135, 136, 137, 138, 139, 140, 141, 142, 143, 144, 145, 146, 147, 49, 148, 149, 150, 151, 152, 153, 154] (by decide +kernel) (by decide +kernel)
set_option maxRecDepth 20000 in
theorem gg9_wsL_isDone_r6 : GoodIn wsL_law wsL_isDone_r6 := goodIn_r _ [155, 156, 157, 158, 159, 160, 161, 162, 163, 164, 165, 166, 167, 168, 169, 170, 171, 172, 173, 174, 175, 176, 177, 178] (by decide +kernel) (by decide +kernel)
set_option maxRecDepth 20000 in
theorem gg9_wsL_isDone_r7 : GoodIn wsL_law wsL_isDone_r7 := goodIn_r _ [179, 180, 181, 313, 314, 315, 316, 30, 317, 318, 319, 320, 29, 321, 322, 323, 324, 325, 326, 65, 327, 66, 67, 68] (by decide +kernel) (by decide +kernel)
set_option maxRecDepth 20000 in
theorem gg9_wsL_isDone_r8 : GoodIn wsL_law wsL_isDone_r8 := goodIn_r _ [328, 329, 330, 331, 332, 333, 334, 335, 336, 0, 337, 338, 339, 340, 341, 342, 343, 20, 39, 344, 345, 346, 19, 347] (by decide +kernel) (by decide +kernel)
set_option maxRecDepth 20000 in
theorem gg9_wsL_isDone_r9 : GoodIn wsL_law wsL_isDone_r9 := goodIn_r _ [45, 348, 349, 350, 351, 352, 353, 354, 355, 356, 357, 358, 359, 360, 361, 362, 363, 364, 365, 366, 367, 368, 369, 370] (by decide +kernel) (by decide +kernel)
set_option maxRecDepth 20000 in
theorem gg9_wsL_isDone_r10 : GoodIn wsL_law wsL_isDone_r10 := goodIn_r _ [371, 372, 373, 374, 375, 376, 377, 378, 379, 380, 381, 382, 383, 384, 26, 385, 386, 387, 388, 202, 389, 248, 250, 249] (by decide +kernel) (by decide +kernel)
set_option maxRecDepth 20000 in
theorem gg9_wsL_isDone_r11 : GoodIn wsL_law wsL_isDone_r11 := goodIn_r _ [251, 390, 391, 392, 393, 394, 395, 396, 397, 21, 398, 399, 400, 401, 402, 269, 270, 271, 272, 403, 404, 405, 406, 407] (by decide +kernel) (by decide +kernel)
set_option maxRecDepth 20000 in
theorem gg9_wsL_isDone_r12 : GoodIn wsL_law wsL_isDone_r12 := goodIn_r _ [408, 409, 410, 411, 412, 128, 413, 414, 415, 416, 417, 418, 419, 420, 421, 422, 423, 424, 425, 34, 426, 427, 428, 33] (by decide +kernel) (by decide +kernel)
set_option maxRecDepth 20000 in
theorem gg9_wsL_isDone_r13 : GoodIn wsL_law wsL_isDone_r13 := goodIn_r _ [429, 430, 73, 431, 432, 433, 434, 186, 187, 188, 435, 436, 437, 438, 439, 440, 441, 442, 443, 444, 445, 446, 447, 448] (by decide +kernel) (by decide +kernel)
set_option maxRecDepth 20000 in
theorem gg9_wsL_isDone_r14 : GoodIn wsL_law wsL_isDone_r14 := goodIn_r _ [449, 450, 451, 452, 453, 454, 455, 456, 457, 458, 459, 460, 461, 462, 463, 464, 193, 465, 466, 467, 468, 198, 199, 469] (by decide +kernel) (by decide +kernel)
set_option maxRecDepth 20000 in
theorem gg9_wsL_isDone_r15 : GoodIn wsL_law wsL_isDone_r15 := goodIn_r _ [470, 471, 472, 473, 474, 475, 257, 258, 259, 260, 261, 262, 263, 264, 265, 266, 203, 204, 205, 206, 273, 274, 275, 276] (by decide +kernel) (by decide +kernel)
set_option maxRecDepth 20000 in
theorem gg9_wsL_isDone_r16 : GoodIn wsL_law wsL_isDone_r16 := goodIn_r _ [277, 278, 279, 280, 476, 477, 478, 479, 480, 481, 482, 483, 484, 485, 182, 183, 184, 185, 189, 190, 191, 194, 195, 196] (by decide +kernel) (by decide +kernel)
set_option maxRecDepth 20000 in
theorem gg9_wsL_isDone_r17 : GoodIn wsL_law wsL_isDone_r17 := goodIn_r _ [197, 200, 201, 236, 237, 238, 239, 240, 241, 242, 244, 245, 246, 247, 252, 253, 254, 255, 569, 570, 571, 572, 573, 574] (by decide +kernel) (by decide +kernel)
set_option maxRecDepth 20000 in
theorem gg9_wsL_isDone_r18 : GoodIn wsL_law wsL_isDone_r18 := goodIn_r _ [575, 576, 577, 578, 579, 486, 487, 488, 489, 490, 491, 492, 493, 494, 495, 496, 497, 498, 499, 500, 501, 502, 503, 504] (by decide +kernel) (by decide +kernel)
set_option maxRecDepth 20000 in
theorem gg9_wsL_isDone_r19 : GoodIn wsL_law wsL_isDone_r19 := goodIn_r _ [505, 506, 507, 508, 130, 580, 581, 582, 583, 584, 585, 586, 587, 588, 589, 590, 591, 592, 593, 594, 595, 596, 597, 598] (by decide +kernel) (by decide +kernel)
set_option maxRecDepth 20000 in
theorem gg9_wsL_isDone_r20 : GoodIn wsL_law wsL_isDone_r20 := goodIn_r _ [599, 600, 601, 602, 603, 604, 605, 606, 607, 608, 609, 610, 611, 612, 613, 614, 615, 616, 617, 618, 619, 620, 621, 622] (by decide +kernel) (by decide +kernel)
set_option maxRecDepth 20000 in
theorem gg9_wsL_isDone_r21 : GoodIn wsL_law wsL_isDone_r21 := goodIn_r _ [623, 624, 625, 626, 627, 628] (by decide +kernel) (by decide +kernel)
set_option maxRecDepth 20000 in
theorem gg9_isDone_wsX70 : GoodIn wsL_law wsX70 := goodIn_r _ [629, 630, 631, 632, 633, 634, 635, 636, 637, 638, 639, 640, 641] (by decide +kernel) (by decide +kernel)
set_option maxRecDepth 20000 in
theorem gg9_isDone_wsX60 : GoodIn wsL_law wsX60 := goodIn_r _ [664, 665, 666, 667] (by decide +kernel) (by decide +kernel)
set_option maxRecDepth 20000 in
theorem gg9_isDone_wsJx4a65c0 : GoodIn wsL_law wsJx4a65c0 := goodIn_r _ [643, 644, 645] (by decide +kernel) (by decide +kernel)
set_option maxRecDepth 20000 in
theorem gg9_isDone_wsX30 : GoodIn wsL_law wsX30 := goodIn_r _ [657, 658, 659] (by decide +kernel) (by decide +kernel)
set_option maxRecDepth 20000 in
theorem gg9_isDone_wsX00 : GoodIn wsL_law wsX00 := goodIn_r _ [646, 647, 648, 649, 650] (by decide +kernel) (by decide +kernel)
set_option maxRecDepth 20000 in
theorem gg9_isDone_wsX10 : GoodIn wsL_law wsX10 := goodIn_r _ [642] (by decide +kernel) (by decide +kernel)
set_option maxRecDepth 20000 in
theorem gg9_isDone_wsX50 : GoodIn wsL_law wsX50 := goodIn_r _ [668, 669, 670] (by decide +kernel) (by decide +kernel)
set_option maxRecDepth 20000 in
theorem gg9_isDone_wsX40 : GoodIn wsL_law wsX40 := goodIn_r _ [660, 661, 662, 663] (by decide +kernel) (by decide +kernel)
set_option maxRecDepth 20000 in
theorem gg9_isDone_wsX20 : GoodIn wsL_law wsX20 := goodIn_r _ [651, 652] (by decide +kernel) (by decide +kernel)
