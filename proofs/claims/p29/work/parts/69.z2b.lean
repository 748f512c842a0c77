set_option maxRecDepth 20000 in
theorem gg9_wsL_begun_r1 : GoodIn wsL_law (Cond.code yL_begun cL_begun 8 (some (.object "MacroSheet")) :: wsL_begun_r1) := goodIn_r _ [7, 8, 9, 10, 11, 12, 13, 14, 15, 16, 17, 18, 19, 20, 21, 22, 23, 24, 25, 26, 27, 28, 29, 30, 31] (by decide +kernel) (by decide +kernel)
set_option maxRecDepth 20000 in
theorem gg9_wsL_begun_r2 : GoodIn wsL_law wsL_begun_r2 := goodIn_r _ [32, 33, 34, 35, 36, 37, 38, 0, 39, 40, 41, 42, 43, 44, 45, 46, 47, 48, 49, 50, 51, 52, 53, 54] (by decide +kernel) (by decide +kernel)
set_option maxRecDepth 20000 in
theorem gg9_wsL_begun_r3 : GoodIn wsL_law wsL_begun_r3 := goodIn_r _ [55, 56, 57, 58, 59, 60, 61, 62, 63, 64, 65, 66, 67, 68, 69, 70, 71, 72, 73, 74, 75, 76, 77, 78] (by decide +kernel) (by decide +kernel)
set_option maxRecDepth 20000 in
theorem gg9_wsL_begun_r4 : GoodIn wsL_law wsL_begun_r4 := goodIn_r _ [79, 80, 81, 82, 83, 84, 85, 86, 87, 88, 89, 90, 91, 92, 93, 94, 95, 6, 96, 97, 98, 99, 100, 101] (by decide +kernel) (by decide +kernel)
set_option maxRecDepth 20000 in
theorem gg9_wsL_begun_r5 : GoodIn wsL_law wsL_begun_r5 := goodIn_r _ [102, 103, 104, 105, 106, 2, 107, 108, 109, 110, 111, 112, 113, 114, 115, 116, 117, 118, 119, 120, 121, 122, 123, 124] (by decide +kernel) (by decide +kernel)
set_option maxRecDepth 20000 in
theorem gg9_wsL_begun_r6 : GoodIn wsL_law wsL_begun_r6 := goodIn_r _ [125, 126, 127, 128, 129, 130, 131, 132, 133, 134, 135, 136, 137, 138, 139, 140, 141, 142, 143, 144, 145, 146, 147, 148] (by decide +kernel) (by decide +kernel)
set_option maxRecDepth 20000 in
theorem gg9_wsL_begun_r7 : GoodIn wsL_law wsL_begun_r7 := goodIn_r _ [149, 150, 151, 152, 153, 154, 155, 156, 157, 158, 159, 160, 161, 162, 163, 164, 165, 166, 167, 168, 169, 170, 171, 172] (by decide +kernel) (by decide +kernel)
set_option maxRecDepth 20000 in
theorem gg9_wsL_begun_r8 : GoodIn wsL_law wsL_begun_r8 := goodIn_r _ [173, 174, 175, 176, 177, 178, 179, 180, 181, 182, 183, 184, 185, 3, 186, 187, 188, 189, 190, 191, 192, 193, 194, 195] (by decide +kernel) (by decide +kernel)
set_option maxRecDepth 20000 in
theorem gg9_wsL_begun_r9 : GoodIn wsL_law wsL_begun_r9 := goodIn_r _ [196, 197, 198, 199, 200, 201, 202, 203, 204, 205, 206, 207, 208, 209, 210, 211, 212, 213, 214, 215, 216, 217, 218, 219] (by decide +kernel) (by decide +kernel)
set_option maxRecDepth 20000 in
theorem gg9_wsL_begun_r10 : GoodIn wsL_law wsL_begun_r10 := goodIn_r _ [220, 221, 222, 223, 224, 225, 226, 227, 228, 229, 230, 231, 232, 233, 234, 235, 236, 237, 238, 239, 240, 241, 242, 243] (by decide +kernel) (by decide +kernel)
set_option maxRecDepth 20000 in
theorem gg9_wsL_begun_r11 : GoodIn wsL_law wsL_begun_r11 := goodIn_r _ [244, 245, 246, 247, 248, 249, 250, 251, 252, 253, 254, 255, 256, 257, 258, 259, 260, 261, 262, 263, 264, 265, 266, 267] (by decide +kernel) (by decide +kernel)
set_option maxRecDepth 20000 in
theorem gg9_wsL_begun_r12 : GoodIn wsL_law wsL_begun_r12 := goodIn_r _ [268, 269, 270, 271, 272, 273, 274, 275, 276, 277, 278, 279, 280, 281, 282, 283, 284, 285, 286, 287, 288, 289, 290, 291] (by decide +kernel) (by decide +kernel)
set_option maxRecDepth 20000 in
theorem gg9_wsL_begun_r13 : GoodIn wsL_law wsL_begun_r13 := goodIn_r _ [292, 293, 294, 295, 296, 297, 298, 299, 300, 301, 302, 303, 304, 305, 306, 307, 308, 309, 310, 311, 312, 313, 314, 315] (by decide +kernel) (by decide +kernel)
set_option maxRecDepth 20000 in
theorem gg9_wsL_begun_r14 : GoodIn wsL_law wsL_begun_r14 := goodIn_r _ [316, 317, 318, 319, 320, 321, 322, 323, 324, 325, 326, 327, 328, 329, 330, 331, 332, 333, 334, 335, 336, 337, 338, 339] (by decide +kernel) (by decide +kernel)
set_option maxRecDepth 20000 in
theorem gg9_wsL_begun_r15 : GoodIn wsL_law wsL_begun_r15 := goodIn_r _ [340, 341, 342, 343, 344, 345, 346, 347, 348, 349, 350, 351, 352, 353, 354, 355, 356, 357, 358, 359, 360, 361, 362, 363] (by decide +kernel) (by decide +kernel)
set_option maxRecDepth 20000 in
theorem gg9_wsL_begun_r16 : GoodIn wsL_law wsL_begun_r16 := goodIn_r _ [364, 365, 366, 367, 368, 369, 370, 371, 372, 373, 374, 375, 376, 377, 378, 379, 380, 381, 382, 383, 384, 385, 386, 387] (by decide +kernel) (by decide +kernel)
set_option maxRecDepth 20000 in
theorem gg9_wsL_begun_r17 : GoodIn wsL_law wsL_begun_r17 := goodIn_r _ [388, 389, 390, 391, 392, 393, 394, 395, 396, 397, 398, 399, 400, 401, 402, 403, 404, 405, 406, 407, 408, 409, 410, 411] (by decide +kernel) (by decide +kernel)
set_option maxRecDepth 20000 in
theorem gg9_wsL_begun_r18 : GoodIn wsL_law wsL_begun_r18 := goodIn_r _ [412, 413, 414, 415, 416, 417, 418, 419, 420, 421, 422, 423, 424, 425, 426, 427, 428, 429, 430, 431, 432, 433, 434, 435] (by decide +kernel) (by decide +kernel)
set_option maxRecDepth 20000 in
theorem gg9_wsL_begun_r19 : GoodIn wsL_law wsL_begun_r19 := goodIn_r _ [436, 437, 438, 439, 440, 441, 442, 443, 444, 445, 446, 447, 448, 449, 450, 451, 452, 453, 454, 455, 456, 457, 458, 459] (by decide +kernel) (by decide +kernel)
set_option maxRecDepth 20000 in
theorem gg9_wsL_begun_r20 : GoodIn wsL_law wsL_begun_r20 := goodIn_r _ [460, 461, 462, 463, 464, 465, 466, 467, 468, 469, 470, 471, 472, 473, 474, 475, 476, 477, 478, 479, 480, 481, 482, 483] (by decide +kernel) (by decide +kernel)
set_option maxRecDepth 20000 in
theorem gg9_wsL_begun_r21 : GoodIn wsL_law wsL_begun_r21 := goodIn_r _ [484, 485, 486, 487, 488, 489, 490, 491, 492, 493, 494, 495, 496, 497, 498, 499, 500, 501, 502, 503, 504, 505, 506, 507] (by decide +kernel) (by decide +kernel)
set_option maxRecDepth 20000 in
theorem gg9_wsL_begun_r22 : GoodIn wsL_law wsL_begun_r22 := goodIn_r _ [508] (by decide +kernel) (by decide +kernel)
set_option maxRecDepth 20000 in
theorem gg9_begun_wsX70 : GoodIn wsL_law wsX70 := goodIn_r _ [629, 630, 631, 632, 633, 634, 635, 636, 637, 638, 639, 640, 641] (by decide +kernel) (by decide +kernel)
set_option maxRecDepth 20000 in
theorem gg9_begun_wsX10 : GoodIn wsL_law wsX10 := goodIn_r _ [642] (by decide +kernel) (by decide +kernel)
set_option maxRecDepth 20000 in
theorem gg9_begun_wsJx4a65c0 : GoodIn wsL_law wsJx4a65c0 := goodIn_r _ [643, 644, 645] (by decide +kernel) (by decide +kernel)
set_option maxRecDepth 20000 in
theorem gg9_begun_wsX00 : GoodIn wsL_law wsX00 := goodIn_r _ [646, 647, 648, 649, 650] (by decide +kernel) (by decide +kernel)
set_option maxRecDepth 20000 in
theorem gg9_begun_wsX20 : GoodIn wsL_law wsX20 := goodIn_r _ [651, 652] (by decide +kernel) (by decide +kernel)
set_option maxRecDepth 20000 in
theorem gg9_begun_wsJ40 : GoodIn wsL_law wsJ40 := goodIn_r _ [653, 654, 655, 656] (by decide +kernel) (by decide +kernel)
set_option maxRecDepth 20000 in
theorem gg9_begun_wsX30 : GoodIn wsL_law wsX30 := goodIn_r _ [657, 658, 659] (by decide +kernel) (by decide +kernel)
set_option maxRecDepth 20000 in
theorem gg9_begun_wsX40 : GoodIn wsL_law wsX40 := goodIn_r _ [660, 661, 662, 663] (by decide +kernel) (by decide +kernel)
set_option maxRecDepth 20000 in
theorem gg9_begun_wsX60 : GoodIn wsL_law wsX60 := goodIn_r _ [664, 665, 666, 667] (by decide +kernel) (by decide +kernel)
