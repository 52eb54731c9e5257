def dK1 : Heap → Prop := fun _ => True
/-- another object's world, below the address b -/
def dK2 (g : dG) (m : dM) (b : Nat) (H : Heap) : Prop := va_P g.1 vwCl (dws g m) H ∧ ∀ (k : Nat) (x : Nat × va_E), (dws g m)[k]? = some x → x.1 < b
theorem dK2.of {g : dG} {m : dM} {b : Nat} {H H1 : Heap} (h : va_P g.1 vwCl (dws g m) H) (hb : b = H.size) (hold : ∀ q, q < H.size → H1[q]? = H[q]?) : dK2 g m b H1 := ⟨h.kept (fun k x hx => hold x.1 (h k x hx).lt), fun k x hx => by rw [hb]; exact (h k x hx).lt⟩
theorem dK2.to {g : dG} {m : dM} {b : Nat} {H H1 : Heap} (h : dK2 g m b H) (e : ∀ q, q < b → H1[q]? = H[q]?) : dK2 g m b H1 := ⟨h.1.kept (fun k x hx => e x.1 (h.2 k x hx)), h.2⟩
theorem dw_base {g : dG} {s : State} {m : dM} {H : Heap} (hE : dEw g s) (hP : va_P g.1 vwCl (dws g m) H) : g.2.2.2 ≤ H.size := Nat.le_trans ((hE.2.2.2.2.2.1 m).2 0 _ (dws_get (by decide))) (Nat.le_of_lt (hP 0 _ (dws_get (by decide))).lt)
theorem ynL_judges : yL_judges.cls ≠ "java/lang/invoke/MethodHandle" ∧ yL_judges.cls ≠ "java/lang/invoke/VarHandle" ∧ (parseMethodDescriptor yL_judges.desc).map (fun d => d.parameters.length) = some 0 := by decide +kernel
set_option maxRecDepth 20000 in
theorem ggL_judges_X11_init : GoodIn wsL_judges wsX11_init := goodIn_s _ [7, 8, 9, 10, 11, 12, 13, 14, 15, 16, 17, 18, 19, 20, 21, 22, 23, 24, 25, 26, 27, 28, 29, 30, 31, 32, 33, 34, 35, 36, 37, 38, 39, 40, 41, 42, 43, 44, 45, 46, 47, 48, 49, 50, 51, 52, 53, 54, 55, 56, 57, 58, 59, 60, 61, 62, 63, 64, 65, 66, 67, 68, 69, 70, 71, 72, 73, 74, 75, 76, 77, 78, 79, 80, 81, 82, 83, 84, 85, 86, 87, 88, 89, 90, 91, 92, 93, 94, 95, 96, 97, 98, 99, 100, 101, 102, 103, 104, 105, 106, 107, 108, 109, 110, 111, 112, 113, 114, 115, 116, 117, 118, 119, 120, 121, 122, 123, 124, 125, 126, 127, 128, 129, 130, 131, 132, 133, 134, 135, 136, 137, 138, 139, 140, 141, 142, 143, 144, 145, 146, 147, 148, 149, 727, 728, 729, 730, 731, 719, 720, 721, 722, 723, 724, 725, 726, 732, 733, 734, 735, 736, 737, 738, 739, 740, 741, 742, 743, 744, 745, 746, 747, 748, 749, 750, 751, 752, 753, 754, 755, 756, 757, 758, 759, 760, 761, 762, 763, 764, 765, 766, 767, 768, 769, 770, 771, 772, 773, 774] (by decide +kernel) (by decide +kernel)
set_option maxRecDepth 20000 in
theorem gL_judges_X11_init : GoodIn wsL_judges (wsX11_init) := ggL_judges_X11_init
set_option maxRecDepth 20000 in
theorem ggL_judges_L_act : GoodIn wsL_judges wsL_act := goodIn_ca (goodIn_ca (goodIn_ca (goodIn_s _ [153, 154, 155, 156, 157, 158, 4, 159, 160, 152, 161, 162, 163, 164, 3, 165, 166, 167, 18, 14, 168, 169, 170, 171, 172, 173, 174, 175, 176, 177, 178, 17, 179, 180, 181, 54, 55, 13, 56, 57, 58, 59, 60, 61, 48, 50, 51, 52, 182, 183, 184, 185, 186, 187, 188, 189, 190, 191, 192, 193, 194, 195, 196, 197, 198, 199, 200, 201, 202, 203, 204, 205, 206, 207, 208, 209, 210, 211, 212, 213, 214, 215, 216, 217, 218, 219, 220, 221, 222, 223, 224, 225, 226, 227, 228, 229, 230, 231, 232, 233, 234, 235, 236, 237, 238, 239, 240, 241, 242, 68, 243, 244, 245, 246, 247, 248, 249, 250, 251, 33, 252, 72, 73, 253, 254, 255, 256, 257, 258, 259, 260, 261, 262, 263, 264, 265, 266, 267, 268, 269, 270, 271, 272, 273, 274, 275, 276, 67, 277, 278, 279, 280, 281, 282, 283, 284, 285, 286, 287, 288, 289, 290, 291, 292, 293, 294, 295, 296, 297, 298, 299, 300, 301, 302, 303, 304, 305, 306, 307, 308, 22, 309, 310, 311, 21, 312, 313, 314, 315, 316, 317, 318, 319, 320, 321, 322, 79, 82, 323, 324, 325, 81, 326, 327, 94, 95, 328, 329, 330, 331, 332, 86, 333, 334, 335, 336, 337, 338, 339, 340, 341, 342, 91, 343, 344, 345, 346, 92, 347, 348, 349, 350, 351, 352, 353, 354, 85, 355, 356, 357, 102, 103, 106, 358, 359, 360, 361, 362, 101, 363, 364, 365, 366, 367, 368, 369, 370, 371, 372, 373, 374, 104, 375, 105, 107, 376, 377, 378, 379, 380, 381, 382, 383, 384, 385, 386, 387, 388, 389, 390, 391, 392, 393, 394, 395, 396, 397, 398, 399, 93, 400, 401, 402, 403, 404, 405, 406, 407, 408, 409, 410, 411, 412, 413, 414, 415, 416, 417, 418, 419, 420, 421, 422, 423, 424, 425, 426, 427, 428, 429, 430, 431, 432, 433, 434, 435, 436, 437, 438, 439, 440, 441, 442, 443, 444, 445, 446, 447, 448, 449, 450, 451, 452, 453, 454, 455, 456, 457, 458, 459, 460, 461, 462, 463, 464, 465, 26, 466, 467, 468, 25, 469, 118, 470, 471, 472, 473, 474, 117, 475, 476, 477, 478, 479, 122, 123, 124, 125, 480, 481, 482, 483, 484, 113, 114, 485, 486, 487, 488, 489, 490, 491, 492, 493, 494, 495, 496, 497, 498, 499, 500, 501, 502, 503, 504, 505, 506, 507, 508, 509, 510, 511, 512, 513, 514, 515, 516, 517, 518, 519, 520, 521, 522, 523, 524, 525, 526, 527, 528, 529, 530, 531, 532, 533, 534, 535, 536, 537, 538, 34, 539, 540, 541, 542, 543, 544, 545, 546, 547, 548, 549, 550, 551, 552, 553, 554, 555, 556, 557, 558, 559, 560, 561, 562, 563, 564, 565, 566, 567, 568, 569, 570, 42, 571, 572, 573, 41, 574, 575, 149, 576, 577, 578, 579, 580, 581, 582, 583, 147, 584, 585, 586, 587, 588, 589, 590, 591, 592, 593, 594, 595, 148, 596, 597, 598, 599, 600, 601, 602, 603, 604, 605, 606, 607, 608, 609, 610, 611, 612, 613, 614, 615, 616, 617, 618, 619, 620, 621, 622, 623, 624, 625, 626, 627, 628, 629, 630, 631, 632, 719, 720, 721, 722, 723, 724, 725, 726, 732, 733, 734, 727, 728, 729, 730, 731, 747, 748, 735, 736, 737, 738, 756, 757, 758, 759, 760, 761, 762, 763, 764, 765, 766, 767, 768, 769, 770, 739, 740, 741, 742, 771, 772, 773, 774, 752, 753, 754, 755] (by decide +kernel) (by decide +kernel)) (goodIn_sub (fun _ h => List.mem_cons_of_mem _ (List.mem_append_left _ (List.mem_append_left _ (List.mem_append_right _ h)))) (by decide +kernel))) (goodIn_sub (fun _ h => List.mem_cons_of_mem _ (List.mem_append_left _ (List.mem_append_right _ h))) (by decide +kernel))) (goodIn_sub (fun _ h => List.mem_cons_of_mem _ (List.mem_append_right _ h)) (by decide +kernel))
set_option maxRecDepth 20000 in
theorem gL_judges_L_act : GoodIn wsL_judges (va_wsS RL 121 yL_act wsL_act) := goodIn_app (goodIn_of _ (by decide +kernel)) ggL_judges_L_act
set_option maxRecDepth 20000 in
theorem ggL_judges_X11_lasts : GoodIn wsL_judges wsX11_lasts := goodIn_s _ [636, 22, 584, 585, 586, 21, 587, 313, 333, 320, 321, 322, 79, 82, 174, 3, 175, 588, 589, 590, 81, 591, 94, 95, 243, 244, 245, 246, 247, 248, 719, 720, 721, 722, 723, 724, 725, 726, 735, 736, 737, 738, 756, 757, 758, 759, 760, 761, 762] (by decide +kernel) (by decide +kernel)
set_option maxRecDepth 20000 in
theorem gL_judges_X11_lasts : GoodIn wsL_judges (wsV RL 115 RX11 yX11_lasts wsX11_lasts) := goodIn_app (goodIn_of _ (by decide +kernel)) ggL_judges_X11_lasts
set_option maxRecDepth 20000 in
theorem ggL_judges_X11_judge : GoodIn wsL_judges wsX11_judge := goodIn_ca (goodIn_ca (goodIn_s _ [579, 42, 22, 194, 195, 3, 196, 197, 198, 173, 174, 175, 168, 169, 170, 171, 172, 580, 581, 582, 41, 583, 147, 584, 585, 586, 21, 587, 313, 333, 320, 321, 322, 79, 82, 588, 589, 590, 81, 591, 94, 95, 243, 244, 245, 246, 247, 248, 592, 593, 594, 595, 148, 596, 427, 59, 428, 597, 598, 599, 600, 575, 149, 719, 720, 721, 722, 723, 724, 725, 726, 752, 753, 754, 755, 735, 736, 737, 738, 756, 757, 758, 759, 760, 761, 762] (by decide +kernel) (by decide +kernel)) (goodIn_sub (fun _ h => List.mem_cons_of_mem _ (List.mem_append_right _ h)) (by decide +kernel))) (goodIn_sub (fun _ h => List.mem_cons_of_mem _ (List.mem_append_left _ (List.mem_append_right _ h))) (by decide +kernel))
set_option maxRecDepth 20000 in
theorem gL_judges_X11_judge : GoodIn wsL_judges (wsV RL 85 RX11 yX11_judge wsX11_judge) := goodIn_app (goodIn_of _ (by decide +kernel)) ggL_judges_X11_judge
set_option maxRecDepth 20000 in
theorem ggL_judges_X11_ranked : GoodIn wsL_judges wsX11_ranked := goodIn_ca (goodIn_s _ [612, 42, 22, 168, 169, 3, 170, 171, 172, 173, 174, 175, 584, 585, 586, 21, 587, 313, 333, 320, 321, 322, 79, 82, 588, 589, 590, 81, 591, 94, 95, 243, 244, 245, 246, 247, 248, 613, 614, 615, 41, 616, 617, 618, 619, 620, 621, 593, 594, 595, 147, 148, 596, 427, 59, 428, 597, 598, 599, 600, 575, 149, 622, 623, 624, 625, 719, 720, 721, 722, 723, 724, 725, 726, 735, 736, 737, 738, 756, 757, 758, 759, 760, 761, 762, 752, 753, 754, 755] (by decide +kernel) (by decide +kernel)) (goodIn_sub (fun _ h => List.mem_cons_of_mem _ (List.mem_append_left _ (List.mem_append_right _ h))) (by decide +kernel))
set_option maxRecDepth 20000 in
theorem gL_judges_X11_ranked : GoodIn wsL_judges (wsV RL 91 RX11 yX11_ranked wsX11_ranked) := goodIn_app (goodIn_of _ (by decide +kernel)) ggL_judges_X11_ranked
set_option maxRecDepth 20000 in
theorem ggL_judges_X11_penalty : GoodIn wsL_judges wsX11_penalty := goodIn_ca (goodIn_ca (goodIn_s _ [604, 42, 22, 194, 195, 3, 196, 197, 198, 173, 174, 175, 168, 169, 170, 171, 172, 605, 606, 607, 41, 608, 148, 584, 585, 586, 21, 587, 313, 333, 320, 321, 322, 79, 82, 588, 589, 590, 81, 591, 94, 95, 243, 244, 245, 246, 247, 248, 592, 593, 594, 595, 147, 596, 427, 59, 428, 597, 598, 599, 600, 575, 149, 719, 720, 721, 722, 723, 724, 725, 726, 752, 753, 754, 755, 735, 736, 737, 738, 756, 757, 758, 759, 760, 761, 762] (by decide +kernel) (by decide +kernel)) (goodIn_sub (fun _ h => List.mem_cons_of_mem _ (List.mem_append_right _ h)) (by decide +kernel))) (goodIn_sub (fun _ h => List.mem_cons_of_mem _ (List.mem_append_left _ (List.mem_append_right _ h))) (by decide +kernel))
set_option maxRecDepth 20000 in
theorem gL_judges_X11_penalty : GoodIn wsL_judges (wsV RL 88 RX11 yX11_penalty wsX11_penalty) := goodIn_app (goodIn_of _ (by decide +kernel)) ggL_judges_X11_penalty
set_option maxRecDepth 20000 in
theorem ggL_judges_X11_rehearse : GoodIn wsL_judges wsX11_rehearse := goodIn_ca (goodIn_s _ [629, 168, 169, 3, 170, 171, 172, 173, 174, 175, 630, 631, 632, 552, 243, 244, 245, 246, 247, 248] (by decide +kernel) (by decide +kernel)) (goodIn_sub (fun _ h => List.mem_cons_of_mem _ (List.mem_append_left _ (List.mem_append_right _ h))) (by decide +kernel))
set_option maxRecDepth 20000 in
theorem gL_judges_X11_rehearse : GoodIn wsL_judges (wsV RL 95 RX11 yX11_rehearse wsX11_rehearse) := goodIn_app (goodIn_of _ (by decide +kernel)) ggL_judges_X11_rehearse
set_option maxRecDepth 20000 in
theorem ggL_judges_X11_agrees : GoodIn wsL_judges wsX11_agrees := goodIn_s _ [640, 22, 26, 14, 30, 309, 310, 311, 21, 312, 313, 319, 320, 321, 322, 79, 82, 174, 3, 175, 466, 467, 468, 25, 469, 118, 470, 471, 191, 192, 13, 193, 61, 472, 473, 474, 117, 475, 476, 477, 478, 479, 122, 123, 124, 125, 480, 451, 452, 81, 453, 94, 481, 482, 483, 484, 113, 114, 485, 486, 487, 488, 489, 455, 456, 457, 91, 92, 400, 262, 263, 33, 264, 72, 203, 204, 243, 244, 245, 246, 247, 248, 490, 459, 460, 461, 401, 266, 267, 268, 73, 402, 250, 251, 252, 491, 218, 219, 220, 50, 51, 52, 492, 493, 494, 495, 95, 496, 497, 498, 499, 500, 200, 201, 202, 48, 501, 502, 503, 504, 505, 366, 367, 368, 369, 370, 506, 507, 508, 509, 510, 511, 512, 513, 514, 515, 516, 517, 518, 519, 520, 521, 522, 523, 524, 525, 526, 527, 528, 529, 530, 641, 642, 643, 29, 644, 645, 58, 59, 60, 135, 130, 131, 646, 647, 648, 649, 650, 651, 652, 653, 654, 655, 656, 657, 133, 658, 659, 660, 661, 662, 663, 664, 665, 666, 667, 668, 669, 670, 671, 672, 673, 674, 675, 676, 278, 279, 280, 281, 282, 283, 677, 678, 679, 680, 681, 349, 350, 351, 328, 190, 682, 683, 684, 685, 445, 719, 720, 721, 722, 723, 724, 725, 726, 735, 736, 737, 738, 739, 740, 741, 742, 727, 728, 729, 730, 731, 771, 772, 773, 774, 756, 757, 758, 759, 760, 761, 762, 747, 748, 743, 744, 745, 746] (by decide +kernel) (by decide +kernel)
set_option maxRecDepth 20000 in
theorem gL_judges_X11_agrees : GoodIn wsL_judges (wsV RL 134 RX11 yX11_agrees wsX11_agrees) := goodIn_app (goodIn_of _ (by decide +kernel)) ggL_judges_X11_agrees
set_option maxRecDepth 20000 in
theorem ggL_judges_L_refuses : GoodIn wsL_judges wsL_refuses := goodIn_ca (goodIn_ca (goodIn_ca (goodIn_s _ [688, 689, 158, 157, 4, 633, 634, 635, 3, 636, 22, 584, 585, 586, 21, 587, 313, 333, 320, 321, 322, 79, 82, 174, 175, 588, 589, 590, 81, 591, 94, 95, 243, 244, 245, 246, 247, 248, 690, 691, 692, 693, 38, 14, 190, 191, 192, 13, 193, 61, 694, 695, 696, 37, 697, 698, 699, 58, 59, 60, 700, 427, 428, 701, 310, 311, 312, 702, 703, 704, 705, 141, 142, 706, 707, 344, 345, 346, 92, 708, 366, 367, 33, 368, 72, 73, 203, 204, 369, 370, 150, 151, 152, 153, 154, 155, 156, 159, 160, 161, 162, 163, 164, 165, 166, 167, 18, 168, 169, 170, 171, 172, 173, 176, 177, 178, 17, 179, 180, 181, 54, 55, 56, 57, 48, 50, 51, 52, 182, 183, 184, 185, 186, 187, 188, 189, 194, 195, 196, 197, 198, 199, 200, 201, 202, 205, 206, 207, 208, 209, 210, 211, 212, 213, 214, 215, 216, 217, 218, 219, 220, 221, 222, 223, 224, 225, 226, 227, 228, 229, 230, 231, 232, 233, 234, 235, 236, 237, 238, 239, 240, 241, 242, 68, 249, 250, 251, 252, 253, 254, 255, 256, 257, 258, 259, 260, 261, 262, 263, 264, 265, 266, 267, 268, 269, 270, 271, 272, 273, 274, 275, 276, 67, 277, 278, 279, 280, 281, 282, 283, 284, 285, 286, 287, 288, 289, 290, 291, 292, 293, 294, 295, 296, 297, 298, 299, 300, 301, 302, 303, 304, 305, 306, 307, 308, 309, 314, 315, 316, 317, 318, 319, 323, 324, 325, 326, 327, 328, 329, 330, 331, 332, 86, 334, 335, 336, 337, 338, 339, 340, 341, 342, 91, 343, 347, 348, 349, 350, 351, 352, 353, 354, 85, 355, 356, 357, 102, 103, 106, 358, 359, 360, 361, 362, 101, 363, 364, 365, 371, 372, 373, 374, 104, 375, 105, 107, 376, 377, 378, 379, 380, 381, 382, 383, 384, 385, 386, 387, 388, 389, 390, 391, 392, 393, 394, 395, 396, 397, 398, 399, 93, 400, 401, 402, 403, 404, 405, 406, 407, 408, 409, 410, 411, 412, 413, 414, 415, 416, 417, 418, 419, 420, 421, 422, 423, 424, 425, 426, 429, 430, 431, 432, 433, 434, 435, 436, 437, 438, 439, 440, 441, 442, 443, 444, 445, 446, 447, 448, 449, 450, 451, 452, 453, 454, 455, 456, 457, 458, 459, 460, 461, 462, 463, 464, 465, 26, 466, 467, 468, 25, 469, 118, 470, 471, 472, 473, 474, 117, 475, 476, 477, 478, 479, 122, 123, 124, 125, 480, 481, 482, 483, 484, 113, 114, 485, 486, 487, 488, 489, 490, 491, 492, 493, 494, 495, 496, 497, 498, 499, 500, 501, 502, 503, 504, 505, 506, 507, 508, 509, 510, 511, 512, 513, 514, 515, 516, 517, 518, 519, 520, 521, 522, 523, 524, 525, 526, 527, 528, 529, 530, 531, 532, 533, 534, 535, 536, 537, 538, 34, 539, 540, 541, 542, 543, 544, 545, 546, 547, 548, 549, 550, 551, 552, 553, 554, 555, 556, 557, 558, 559, 560, 561, 562, 563, 564, 565, 566, 567, 568, 569, 570, 42, 571, 572, 573, 41, 574, 575, 149, 576, 577, 578, 579, 580, 581, 582, 583, 147, 592, 593, 594, 595, 148, 596, 597, 598, 599, 600, 601, 602, 603, 604, 605, 606, 607, 608, 609, 610, 611, 612, 613, 614, 615, 616, 617, 618, 619, 620, 621, 622, 623, 624, 625, 626, 627, 628, 629, 630, 631, 632, 709, 710, 711, 712, 713, 714, 715, 716, 717, 718, 719, 720, 721, 722, 723, 724, 725, 726, 735, 736, 737, 738, 756, 757, 758, 759, 760, 761, 762, 727, 728, 729, 730, 731, 749, 750, 751, 747, 748, 732, 733, 734, 763, 764, 765, 766, 767, 768, 769, 770, 739, 740, 741, 742, 771, 772, 773, 774, 752, 753, 754, 755] (by decide +kernel) (by decide +kernel)) (goodIn_sub (fun _ h => List.mem_cons_of_mem _ (List.mem_append_left _ (List.mem_append_left _ (List.mem_append_right _ h)))) (by decide +kernel))) (goodIn_sub (fun _ h => List.mem_cons_of_mem _ (List.mem_append_left _ (List.mem_append_right _ h))) (by decide +kernel))) (goodIn_sub (fun _ h => List.mem_cons_of_mem _ (List.mem_append_right _ h)) (by decide +kernel))
set_option maxRecDepth 20000 in
theorem gL_judges_L_refuses : GoodIn wsL_judges (va_wsS RL 130 yL_refuses wsL_refuses) := goodIn_app (goodIn_of _ (by decide +kernel)) ggL_judges_L_refuses
theorem dL_judges_0 : decode cL_judges 0 = .ok (.new 8, 3) := by decide +kernel
theorem dL_judges_3 : decode cL_judges 3 = .ok (.dup, 1) := by decide +kernel
theorem dL_judges_4 : decode cL_judges 4 = .ok (.invokespecial 129, 3) := by decide +kernel
theorem dL_judges_7 : decode cL_judges 7 = .ok (.astore_n 0, 1) := by decide +kernel
theorem dL_judges_8 : decode cL_judges 8 = .ok (.iconst 0, 1) := by decide +kernel
theorem dL_judges_9 : decode cL_judges 9 = .ok (.istore_n 1, 1) := by decide +kernel
theorem dL_judges_10 : decode cL_judges 10 = .ok (.iload_n 1, 1) := by decide +kernel
theorem dL_judges_11 : decode cL_judges 11 = .ok (.bipush 13, 2) := by decide +kernel
theorem dL_judges_13 : decode cL_judges 13 = .ok (.if_icmp .ge 44, 3) := by decide +kernel
theorem dL_judges_16 : decode cL_judges 16 = .ok (.aload_n 0, 1) := by decide +kernel
theorem dL_judges_17 : decode cL_judges 17 = .ok (.iconst 4, 1) := by decide +kernel
theorem dL_judges_18 : decode cL_judges 18 = .ok (.bipush 10, 2) := by decide +kernel
theorem dL_judges_20 : decode cL_judges 20 = .ok (.iload_n 1, 1) := by decide +kernel
theorem dL_judges_21 : decode cL_judges 21 = .ok (.imul, 1) := by decide +kernel
theorem dL_judges_22 : decode cL_judges 22 = .ok (.iconst 0, 1) := by decide +kernel
theorem dL_judges_23 : decode cL_judges 23 = .ok (.sipush 400, 3) := by decide +kernel
theorem dL_judges_26 : decode cL_judges 26 = .ok (.bipush 60, 2) := by decide +kernel
theorem dL_judges_28 : decode cL_judges 28 = .ok (.invokestatic 121, 3) := by decide +kernel
theorem dL_judges_31 : decode cL_judges 31 = .ok (.iload_n 1, 1) := by decide +kernel
theorem dL_judges_32 : decode cL_judges 32 = .ok (.bipush 12, 2) := by decide +kernel
theorem dL_judges_34 : decode cL_judges 34 = .ok (.if_icmp .ge 8, 3) := by decide +kernel
theorem dL_judges_37 : decode cL_judges 37 = .ok (.iload_n 1, 1) := by decide +kernel
theorem dL_judges_38 : decode cL_judges 38 = .ok (.i2l, 1) := by decide +kernel
theorem dL_judges_39 : decode cL_judges 39 = .ok (.goto 6, 3) := by decide +kernel
theorem dL_judges_42 : decode cL_judges 42 = .ok (.ldc2_w 108, 3) := by decide +kernel
theorem dL_judges_45 : decode cL_judges 45 = .ok (.lcmp, 1) := by decide +kernel
theorem dL_judges_46 : decode cL_judges 46 = .ok (.ifCond .eq 5, 3) := by decide +kernel
theorem dL_judges_49 : decode cL_judges 49 = .ok (.iconst 0, 1) := by decide +kernel
theorem dL_judges_50 : decode cL_judges 50 = .ok (.ireturn, 1) := by decide +kernel
theorem dL_judges_51 : decode cL_judges 51 = .ok (.iinc 1 1, 3) := by decide +kernel
theorem dL_judges_54 : decode cL_judges 54 = .ok (.goto (-44), 3) := by decide +kernel
theorem dL_judges_57 : decode cL_judges 57 = .ok (.iconst 0, 1) := by decide +kernel
theorem dL_judges_58 : decode cL_judges 58 = .ok (.istore_n 1, 1) := by decide +kernel
theorem dL_judges_59 : decode cL_judges 59 = .ok (.iload_n 1, 1) := by decide +kernel
theorem dL_judges_60 : decode cL_judges 60 = .ok (.bipush 13, 2) := by decide +kernel
theorem dL_judges_62 : decode cL_judges 62 = .ok (.if_icmp .ge 46, 3) := by decide +kernel
theorem dL_judges_65 : decode cL_judges 65 = .ok (.aload_n 0, 1) := by decide +kernel
theorem dL_judges_66 : decode cL_judges 66 = .ok (.bipush 7, 2) := by decide +kernel
theorem dL_judges_68 : decode cL_judges 68 = .ok (.iload_n 1, 1) := by decide +kernel
theorem dL_judges_69 : decode cL_judges 69 = .ok (.bipush 12, 2) := by decide +kernel
theorem dL_judges_71 : decode cL_judges 71 = .ok (.irem, 1) := by decide +kernel
theorem dL_judges_72 : decode cL_judges 72 = .ok (.bipush 10, 2) := by decide +kernel
theorem dL_judges_74 : decode cL_judges 74 = .ok (.bipush 120, 2) := by decide +kernel
theorem dL_judges_76 : decode cL_judges 76 = .ok (.iload_n 1, 1) := by decide +kernel
theorem dL_judges_77 : decode cL_judges 77 = .ok (.iconst 2, 1) := by decide +kernel
theorem dL_judges_78 : decode cL_judges 78 = .ok (.irem, 1) := by decide +kernel
theorem dL_judges_79 : decode cL_judges 79 = .ok (.invokestatic 121, 3) := by decide +kernel
theorem dL_judges_82 : decode cL_judges 82 = .ok (.iload_n 1, 1) := by decide +kernel
theorem dL_judges_83 : decode cL_judges 83 = .ok (.bipush 12, 2) := by decide +kernel
theorem dL_judges_85 : decode cL_judges 85 = .ok (.if_icmp .ge 8, 3) := by decide +kernel
theorem dL_judges_88 : decode cL_judges 88 = .ok (.iload_n 1, 1) := by decide +kernel
theorem dL_judges_89 : decode cL_judges 89 = .ok (.i2l, 1) := by decide +kernel
theorem dL_judges_90 : decode cL_judges 90 = .ok (.goto 6, 3) := by decide +kernel
theorem dL_judges_93 : decode cL_judges 93 = .ok (.ldc2_w 108, 3) := by decide +kernel
theorem dL_judges_96 : decode cL_judges 96 = .ok (.lcmp, 1) := by decide +kernel
theorem dL_judges_97 : decode cL_judges 97 = .ok (.ifCond .eq 5, 3) := by decide +kernel
theorem dL_judges_100 : decode cL_judges 100 = .ok (.iconst 0, 1) := by decide +kernel
theorem dL_judges_101 : decode cL_judges 101 = .ok (.ireturn, 1) := by decide +kernel
theorem dL_judges_102 : decode cL_judges 102 = .ok (.iinc 1 1, 3) := by decide +kernel
theorem dL_judges_105 : decode cL_judges 105 = .ok (.goto (-46), 3) := by decide +kernel
theorem dL_judges_108 : decode cL_judges 108 = .ok (.aload_n 0, 1) := by decide +kernel
theorem dL_judges_109 : decode cL_judges 109 = .ok (.invokevirtual 115, 3) := by decide +kernel
theorem dL_judges_112 : decode cL_judges 112 = .ok (.sipush 600, 3) := by decide +kernel
theorem dL_judges_115 : decode cL_judges 115 = .ok (.if_icmp .ne 307, 3) := by decide +kernel
theorem dL_judges_118 : decode cL_judges 118 = .ok (.aload_n 0, 1) := by decide +kernel
theorem dL_judges_119 : decode cL_judges 119 = .ok (.iconst 0, 1) := by decide +kernel
theorem dL_judges_120 : decode cL_judges 120 = .ok (.iconst 0, 1) := by decide +kernel
theorem dL_judges_121 : decode cL_judges 121 = .ok (.sipush 600, 3) := by decide +kernel
theorem dL_judges_124 : decode cL_judges 124 = .ok (.invokevirtual 85, 3) := by decide +kernel
theorem dL_judges_127 : decode cL_judges 127 = .ok (.sipush 200, 3) := by decide +kernel
theorem dL_judges_130 : decode cL_judges 130 = .ok (.if_icmp .ne 292, 3) := by decide +kernel
theorem dL_judges_133 : decode cL_judges 133 = .ok (.aload_n 0, 1) := by decide +kernel
theorem dL_judges_134 : decode cL_judges 134 = .ok (.bipush 16, 2) := by decide +kernel
theorem dL_judges_136 : decode cL_judges 136 = .ok (.sipush 650, 3) := by decide +kernel
theorem dL_judges_139 : decode cL_judges 139 = .ok (.sipush 9999, 3) := by decide +kernel
theorem dL_judges_142 : decode cL_judges 142 = .ok (.iconst 0, 1) := by decide +kernel
theorem dL_judges_143 : decode cL_judges 143 = .ok (.iconst 0, 1) := by decide +kernel
theorem dL_judges_144 : decode cL_judges 144 = .ok (.invokestatic 121, 3) := by decide +kernel
theorem dL_judges_147 : decode cL_judges 147 = .ok (.lconst 1, 1) := by decide +kernel
theorem dL_judges_148 : decode cL_judges 148 = .ok (.lcmp, 1) := by decide +kernel
theorem dL_judges_149 : decode cL_judges 149 = .ok (.ifCond .ne 273, 3) := by decide +kernel
theorem dL_judges_152 : decode cL_judges 152 = .ok (.aload_n 0, 1) := by decide +kernel
theorem dL_judges_153 : decode cL_judges 153 = .ok (.iconst 0, 1) := by decide +kernel
theorem dL_judges_154 : decode cL_judges 154 = .ok (.iconst 1, 1) := by decide +kernel
theorem dL_judges_155 : decode cL_judges 155 = .ok (.sipush 600, 3) := by decide +kernel
theorem dL_judges_158 : decode cL_judges 158 = .ok (.invokevirtual 85, 3) := by decide +kernel
theorem dL_judges_161 : decode cL_judges 161 = .ok (.sipush 398, 3) := by decide +kernel
theorem dL_judges_164 : decode cL_judges 164 = .ok (.if_icmp .ne 258, 3) := by decide +kernel
theorem dL_judges_167 : decode cL_judges 167 = .ok (.aload_n 0, 1) := by decide +kernel
theorem dL_judges_168 : decode cL_judges 168 = .ok (.iconst 1, 1) := by decide +kernel
theorem dL_judges_169 : decode cL_judges 169 = .ok (.iconst 1, 1) := by decide +kernel
theorem dL_judges_170 : decode cL_judges 170 = .ok (.sipush 600, 3) := by decide +kernel
theorem dL_judges_173 : decode cL_judges 173 = .ok (.invokevirtual 85, 3) := by decide +kernel
theorem dL_judges_176 : decode cL_judges 176 = .ok (.sipush 200, 3) := by decide +kernel
theorem dL_judges_179 : decode cL_judges 179 = .ok (.if_icmp .ne 243, 3) := by decide +kernel
theorem dL_judges_182 : decode cL_judges 182 = .ok (.aload_n 0, 1) := by decide +kernel
theorem dL_judges_183 : decode cL_judges 183 = .ok (.iconst 1, 1) := by decide +kernel
theorem dL_judges_184 : decode cL_judges 184 = .ok (.iconst 0, 1) := by decide +kernel
theorem dL_judges_185 : decode cL_judges 185 = .ok (.sipush 600, 3) := by decide +kernel
theorem dL_judges_188 : decode cL_judges 188 = .ok (.invokevirtual 85, 3) := by decide +kernel
theorem dL_judges_191 : decode cL_judges 191 = .ok (.sipush 400, 3) := by decide +kernel
theorem dL_judges_194 : decode cL_judges 194 = .ok (.if_icmp .ne 228, 3) := by decide +kernel
theorem dL_judges_197 : decode cL_judges 197 = .ok (.aload_n 0, 1) := by decide +kernel
theorem dL_judges_198 : decode cL_judges 198 = .ok (.iconst 0, 1) := by decide +kernel
theorem dL_judges_199 : decode cL_judges 199 = .ok (.invokevirtual 91, 3) := by decide +kernel
theorem dL_judges_202 : decode cL_judges 202 = .ok (.iconst 1, 1) := by decide +kernel
theorem dL_judges_203 : decode cL_judges 203 = .ok (.if_icmp .ne 219, 3) := by decide +kernel
theorem dL_judges_206 : decode cL_judges 206 = .ok (.aload_n 0, 1) := by decide +kernel
theorem dL_judges_207 : decode cL_judges 207 = .ok (.iconst 1, 1) := by decide +kernel
theorem dL_judges_208 : decode cL_judges 208 = .ok (.invokevirtual 91, 3) := by decide +kernel
theorem dL_judges_211 : decode cL_judges 211 = .ok (.ifCond .ne 211, 3) := by decide +kernel
theorem dL_judges_214 : decode cL_judges 214 = .ok (.aload_n 0, 1) := by decide +kernel
theorem dL_judges_215 : decode cL_judges 215 = .ok (.iconst 2, 1) := by decide +kernel
theorem dL_judges_216 : decode cL_judges 216 = .ok (.invokevirtual 91, 3) := by decide +kernel
theorem dL_judges_219 : decode cL_judges 219 = .ok (.iconst 2, 1) := by decide +kernel
theorem dL_judges_220 : decode cL_judges 220 = .ok (.if_icmp .ne 202, 3) := by decide +kernel
theorem dL_judges_223 : decode cL_judges 223 = .ok (.aload_n 0, 1) := by decide +kernel
theorem dL_judges_224 : decode cL_judges 224 = .ok (.iconst 5, 1) := by decide +kernel
theorem dL_judges_225 : decode cL_judges 225 = .ok (.invokevirtual 91, 3) := by decide +kernel
theorem dL_judges_228 : decode cL_judges 228 = .ok (.iconst 5, 1) := by decide +kernel
theorem dL_judges_229 : decode cL_judges 229 = .ok (.if_icmp .ne 193, 3) := by decide +kernel
theorem dL_judges_232 : decode cL_judges 232 = .ok (.aload_n 0, 1) := by decide +kernel
theorem dL_judges_233 : decode cL_judges 233 = .ok (.bipush 16, 2) := by decide +kernel
theorem dL_judges_235 : decode cL_judges 235 = .ok (.iconst 0, 1) := by decide +kernel
theorem dL_judges_236 : decode cL_judges 236 = .ok (.sipush 599, 3) := by decide +kernel
theorem dL_judges_239 : decode cL_judges 239 = .ok (.iconst 0, 1) := by decide +kernel
theorem dL_judges_240 : decode cL_judges 240 = .ok (.iconst 0, 1) := by decide +kernel
theorem dL_judges_241 : decode cL_judges 241 = .ok (.invokestatic 121, 3) := by decide +kernel
theorem dL_judges_244 : decode cL_judges 244 = .ok (.lconst 1, 1) := by decide +kernel
theorem dL_judges_245 : decode cL_judges 245 = .ok (.lcmp, 1) := by decide +kernel
theorem dL_judges_246 : decode cL_judges 246 = .ok (.ifCond .ne 176, 3) := by decide +kernel
theorem dL_judges_249 : decode cL_judges 249 = .ok (.aload_n 0, 1) := by decide +kernel
theorem dL_judges_250 : decode cL_judges 250 = .ok (.iconst 0, 1) := by decide +kernel
theorem dL_judges_251 : decode cL_judges 251 = .ok (.iconst 2, 1) := by decide +kernel
theorem dL_judges_252 : decode cL_judges 252 = .ok (.iconst 5, 1) := by decide +kernel
theorem dL_judges_253 : decode cL_judges 253 = .ok (.invokevirtual 85, 3) := by decide +kernel
theorem dL_judges_256 : decode cL_judges 256 = .ok (.sipush 399, 3) := by decide +kernel
theorem dL_judges_259 : decode cL_judges 259 = .ok (.if_icmp .ne 163, 3) := by decide +kernel
theorem dL_judges_262 : decode cL_judges 262 = .ok (.aload_n 0, 1) := by decide +kernel
theorem dL_judges_263 : decode cL_judges 263 = .ok (.iconst 0, 1) := by decide +kernel
theorem dL_judges_264 : decode cL_judges 264 = .ok (.iconst 3, 1) := by decide +kernel
theorem dL_judges_265 : decode cL_judges 265 = .ok (.iconst 2, 1) := by decide +kernel
theorem dL_judges_266 : decode cL_judges 266 = .ok (.invokevirtual 85, 3) := by decide +kernel
theorem dL_judges_269 : decode cL_judges 269 = .ok (.sipush 400, 3) := by decide +kernel
theorem dL_judges_272 : decode cL_judges 272 = .ok (.if_icmp .ne 150, 3) := by decide +kernel
theorem dL_judges_275 : decode cL_judges 275 = .ok (.aload_n 0, 1) := by decide +kernel
theorem dL_judges_276 : decode cL_judges 276 = .ok (.iconst 0, 1) := by decide +kernel
theorem dL_judges_277 : decode cL_judges 277 = .ok (.invokevirtual 91, 3) := by decide +kernel
theorem dL_judges_280 : decode cL_judges 280 = .ok (.ifCond .ne 142, 3) := by decide +kernel
theorem dL_judges_283 : decode cL_judges 283 = .ok (.aload_n 0, 1) := by decide +kernel
theorem dL_judges_284 : decode cL_judges 284 = .ok (.iconst 0, 1) := by decide +kernel
theorem dL_judges_285 : decode cL_judges 285 = .ok (.iconst 1, 1) := by decide +kernel
theorem dL_judges_286 : decode cL_judges 286 = .ok (.invokevirtual 88, 3) := by decide +kernel
theorem dL_judges_289 : decode cL_judges 289 = .ok (.sipush 399, 3) := by decide +kernel
theorem dL_judges_292 : decode cL_judges 292 = .ok (.if_icmp .ne 130, 3) := by decide +kernel
theorem dL_judges_295 : decode cL_judges 295 = .ok (.aload_n 0, 1) := by decide +kernel
theorem dL_judges_296 : decode cL_judges 296 = .ok (.iconst 0, 1) := by decide +kernel
theorem dL_judges_297 : decode cL_judges 297 = .ok (.invokevirtual 91, 3) := by decide +kernel
theorem dL_judges_300 : decode cL_judges 300 = .ok (.iconst 1, 1) := by decide +kernel
theorem dL_judges_301 : decode cL_judges 301 = .ok (.if_icmp .ne 121, 3) := by decide +kernel
theorem dL_judges_304 : decode cL_judges 304 = .ok (.aload_n 0, 1) := by decide +kernel
theorem dL_judges_305 : decode cL_judges 305 = .ok (.iconst 1, 1) := by decide +kernel
theorem dL_judges_306 : decode cL_judges 306 = .ok (.sipush 1000, 3) := by decide +kernel
theorem dL_judges_309 : decode cL_judges 309 = .ok (.invokevirtual 88, 3) := by decide +kernel
theorem dL_judges_312 : decode cL_judges 312 = .ok (.ifCond .ne 110, 3) := by decide +kernel
theorem dL_judges_315 : decode cL_judges 315 = .ok (.aload_n 0, 1) := by decide +kernel
theorem dL_judges_316 : decode cL_judges 316 = .ok (.iconst 5, 1) := by decide +kernel
theorem dL_judges_317 : decode cL_judges 317 = .ok (.invokevirtual 91, 3) := by decide +kernel
theorem dL_judges_320 : decode cL_judges 320 = .ok (.iconst 5, 1) := by decide +kernel
theorem dL_judges_321 : decode cL_judges 321 = .ok (.if_icmp .ne 101, 3) := by decide +kernel
theorem dL_judges_324 : decode cL_judges 324 = .ok (.aload_n 0, 1) := by decide +kernel
theorem dL_judges_325 : decode cL_judges 325 = .ok (.iconst 1, 1) := by decide +kernel
theorem dL_judges_326 : decode cL_judges 326 = .ok (.invokevirtual 91, 3) := by decide +kernel
theorem dL_judges_329 : decode cL_judges 329 = .ok (.iconst 1, 1) := by decide +kernel
theorem dL_judges_330 : decode cL_judges 330 = .ok (.if_icmp .ne 92, 3) := by decide +kernel
theorem dL_judges_333 : decode cL_judges 333 = .ok (.aload_n 0, 1) := by decide +kernel
theorem dL_judges_334 : decode cL_judges 334 = .ok (.iconst 3, 1) := by decide +kernel
theorem dL_judges_335 : decode cL_judges 335 = .ok (.iconst 3, 1) := by decide +kernel
theorem dL_judges_336 : decode cL_judges 336 = .ok (.iconst 5, 1) := by decide +kernel
theorem dL_judges_337 : decode cL_judges 337 = .ok (.invokevirtual 85, 3) := by decide +kernel
theorem dL_judges_340 : decode cL_judges 340 = .ok (.ifCond .ne 82, 3) := by decide +kernel
theorem dL_judges_343 : decode cL_judges 343 = .ok (.aload_n 0, 1) := by decide +kernel
theorem dL_judges_344 : decode cL_judges 344 = .ok (.iconst 2, 1) := by decide +kernel
theorem dL_judges_345 : decode cL_judges 345 = .ok (.invokevirtual 91, 3) := by decide +kernel
theorem dL_judges_348 : decode cL_judges 348 = .ok (.iconst 3, 1) := by decide +kernel
theorem dL_judges_349 : decode cL_judges 349 = .ok (.if_icmp .ne 73, 3) := by decide +kernel
theorem dL_judges_352 : decode cL_judges 352 = .ok (.aload_n 0, 1) := by decide +kernel
theorem dL_judges_353 : decode cL_judges 353 = .ok (.iconst 3, 1) := by decide +kernel
theorem dL_judges_354 : decode cL_judges 354 = .ok (.invokevirtual 91, 3) := by decide +kernel
theorem dL_judges_357 : decode cL_judges 357 = .ok (.iconst 2, 1) := by decide +kernel
theorem dL_judges_358 : decode cL_judges 358 = .ok (.if_icmp .ne 64, 3) := by decide +kernel
theorem dL_judges_361 : decode cL_judges 361 = .ok (.aload_n 0, 1) := by decide +kernel
theorem dL_judges_362 : decode cL_judges 362 = .ok (.bipush 16, 2) := by decide +kernel
theorem dL_judges_364 : decode cL_judges 364 = .ok (.sipush 600, 3) := by decide +kernel
theorem dL_judges_367 : decode cL_judges 367 = .ok (.sipush 600, 3) := by decide +kernel
theorem dL_judges_370 : decode cL_judges 370 = .ok (.iconst 0, 1) := by decide +kernel
theorem dL_judges_371 : decode cL_judges 371 = .ok (.iconst 0, 1) := by decide +kernel
theorem dL_judges_372 : decode cL_judges 372 = .ok (.invokestatic 121, 3) := by decide +kernel
theorem dL_judges_375 : decode cL_judges 375 = .ok (.lconst 1, 1) := by decide +kernel
theorem dL_judges_376 : decode cL_judges 376 = .ok (.lcmp, 1) := by decide +kernel
theorem dL_judges_377 : decode cL_judges 377 = .ok (.ifCond .ne 45, 3) := by decide +kernel
theorem dL_judges_380 : decode cL_judges 380 = .ok (.aload_n 0, 1) := by decide +kernel
theorem dL_judges_381 : decode cL_judges 381 = .ok (.iconst 0, 1) := by decide +kernel
theorem dL_judges_382 : decode cL_judges 382 = .ok (.iconst 0, 1) := by decide +kernel
theorem dL_judges_383 : decode cL_judges 383 = .ok (.invokevirtual 88, 3) := by decide +kernel
theorem dL_judges_386 : decode cL_judges 386 = .ok (.sipush 401, 3) := by decide +kernel
theorem dL_judges_389 : decode cL_judges 389 = .ok (.if_icmp .ne 33, 3) := by decide +kernel
theorem dL_judges_392 : decode cL_judges 392 = .ok (.aload_n 0, 1) := by decide +kernel
theorem dL_judges_393 : decode cL_judges 393 = .ok (.bipush 16, 2) := by decide +kernel
theorem dL_judges_395 : decode cL_judges 395 = .ok (.sipush 9999, 3) := by decide +kernel
theorem dL_judges_398 : decode cL_judges 398 = .ok (.sipush 9999, 3) := by decide +kernel
theorem dL_judges_401 : decode cL_judges 401 = .ok (.iconst 0, 1) := by decide +kernel
theorem dL_judges_402 : decode cL_judges 402 = .ok (.iconst 0, 1) := by decide +kernel
theorem dL_judges_403 : decode cL_judges 403 = .ok (.invokestatic 121, 3) := by decide +kernel
theorem dL_judges_406 : decode cL_judges 406 = .ok (.lconst 1, 1) := by decide +kernel
theorem dL_judges_407 : decode cL_judges 407 = .ok (.lcmp, 1) := by decide +kernel
theorem dL_judges_408 : decode cL_judges 408 = .ok (.ifCond .ne 14, 3) := by decide +kernel
theorem dL_judges_411 : decode cL_judges 411 = .ok (.aload_n 0, 1) := by decide +kernel
theorem dL_judges_412 : decode cL_judges 412 = .ok (.iconst 0, 1) := by decide +kernel
theorem dL_judges_413 : decode cL_judges 413 = .ok (.iconst 0, 1) := by decide +kernel
theorem dL_judges_414 : decode cL_judges 414 = .ok (.invokevirtual 88, 3) := by decide +kernel
theorem dL_judges_417 : decode cL_judges 417 = .ok (.bipush 87, 2) := by decide +kernel
theorem dL_judges_419 : decode cL_judges 419 = .ok (.if_icmp .eq 5, 3) := by decide +kernel
theorem dL_judges_422 : decode cL_judges 422 = .ok (.iconst 0, 1) := by decide +kernel
theorem dL_judges_423 : decode cL_judges 423 = .ok (.ireturn, 1) := by decide +kernel
theorem dL_judges_424 : decode cL_judges 424 = .ok (.aload_n 0, 1) := by decide +kernel
theorem dL_judges_425 : decode cL_judges 425 = .ok (.bipush 50, 2) := by decide +kernel
theorem dL_judges_427 : decode cL_judges 427 = .ok (.bipush 27, 2) := by decide +kernel
theorem dL_judges_429 : decode cL_judges 429 = .ok (.invokevirtual 95, 3) := by decide +kernel
theorem dL_judges_432 : decode cL_judges 432 = .ok (.bipush 50, 2) := by decide +kernel
theorem dL_judges_434 : decode cL_judges 434 = .ok (.if_icmp .ne 156, 3) := by decide +kernel
theorem dL_judges_437 : decode cL_judges 437 = .ok (.aload_n 0, 1) := by decide +kernel
theorem dL_judges_438 : decode cL_judges 438 = .ok (.bipush 51, 2) := by decide +kernel
theorem dL_judges_440 : decode cL_judges 440 = .ok (.bipush 27, 2) := by decide +kernel
theorem dL_judges_442 : decode cL_judges 442 = .ok (.invokevirtual 95, 3) := by decide +kernel
theorem dL_judges_445 : decode cL_judges 445 = .ok (.bipush 61, 2) := by decide +kernel
theorem dL_judges_447 : decode cL_judges 447 = .ok (.if_icmp .ne 143, 3) := by decide +kernel
theorem dL_judges_450 : decode cL_judges 450 = .ok (.aload_n 0, 1) := by decide +kernel
theorem dL_judges_451 : decode cL_judges 451 = .ok (.bipush 100, 2) := by decide +kernel
theorem dL_judges_453 : decode cL_judges 453 = .ok (.iconst 0, 1) := by decide +kernel
theorem dL_judges_454 : decode cL_judges 454 = .ok (.invokevirtual 95, 3) := by decide +kernel
theorem dL_judges_457 : decode cL_judges 457 = .ok (.bipush 110, 2) := by decide +kernel
theorem dL_judges_459 : decode cL_judges 459 = .ok (.if_icmp .ne 131, 3) := by decide +kernel
theorem dL_judges_462 : decode cL_judges 462 = .ok (.aload_n 0, 1) := by decide +kernel
theorem dL_judges_463 : decode cL_judges 463 = .ok (.bipush 30, 2) := by decide +kernel
theorem dL_judges_465 : decode cL_judges 465 = .ok (.bipush 28, 2) := by decide +kernel
theorem dL_judges_467 : decode cL_judges 467 = .ok (.invokevirtual 95, 3) := by decide +kernel
theorem dL_judges_470 : decode cL_judges 470 = .ok (.bipush 30, 2) := by decide +kernel
theorem dL_judges_472 : decode cL_judges 472 = .ok (.if_icmp .ne 118, 3) := by decide +kernel
theorem dL_judges_475 : decode cL_judges 475 = .ok (.aload_n 0, 1) := by decide +kernel
theorem dL_judges_476 : decode cL_judges 476 = .ok (.bipush 31, 2) := by decide +kernel
theorem dL_judges_478 : decode cL_judges 478 = .ok (.bipush 31, 2) := by decide +kernel
theorem dL_judges_480 : decode cL_judges 480 = .ok (.invokevirtual 95, 3) := by decide +kernel
theorem dL_judges_483 : decode cL_judges 483 = .ok (.bipush 41, 2) := by decide +kernel
theorem dL_judges_485 : decode cL_judges 485 = .ok (.if_icmp .ne 105, 3) := by decide +kernel
theorem dL_judges_488 : decode cL_judges 488 = .ok (.aload_n 0, 1) := by decide +kernel
theorem dL_judges_489 : decode cL_judges 489 = .ok (.bipush 20, 2) := by decide +kernel
theorem dL_judges_491 : decode cL_judges 491 = .ok (.bipush 32, 2) := by decide +kernel
theorem dL_judges_493 : decode cL_judges 493 = .ok (.invokevirtual 95, 3) := by decide +kernel
theorem dL_judges_496 : decode cL_judges 496 = .ok (.bipush 20, 2) := by decide +kernel
theorem dL_judges_498 : decode cL_judges 498 = .ok (.if_icmp .ne 92, 3) := by decide +kernel
theorem dL_judges_501 : decode cL_judges 501 = .ok (.aload_n 0, 1) := by decide +kernel
theorem dL_judges_502 : decode cL_judges 502 = .ok (.bipush 21, 2) := by decide +kernel
theorem dL_judges_504 : decode cL_judges 504 = .ok (.bipush 35, 2) := by decide +kernel
theorem dL_judges_506 : decode cL_judges 506 = .ok (.invokevirtual 95, 3) := by decide +kernel
theorem dL_judges_509 : decode cL_judges 509 = .ok (.bipush 41, 2) := by decide +kernel
theorem dL_judges_511 : decode cL_judges 511 = .ok (.if_icmp .ne 79, 3) := by decide +kernel
theorem dL_judges_514 : decode cL_judges 514 = .ok (.aload_n 0, 1) := by decide +kernel
theorem dL_judges_515 : decode cL_judges 515 = .ok (.bipush 41, 2) := by decide +kernel
theorem dL_judges_517 : decode cL_judges 517 = .ok (.bipush 35, 2) := by decide +kernel
theorem dL_judges_519 : decode cL_judges 519 = .ok (.invokevirtual 95, 3) := by decide +kernel
theorem dL_judges_522 : decode cL_judges 522 = .ok (.bipush 81, 2) := by decide +kernel
theorem dL_judges_524 : decode cL_judges 524 = .ok (.if_icmp .ne 66, 3) := by decide +kernel
theorem dL_judges_527 : decode cL_judges 527 = .ok (.aload_n 0, 1) := by decide +kernel
theorem dL_judges_528 : decode cL_judges 528 = .ok (.iconst 1, 1) := by decide +kernel
theorem dL_judges_529 : decode cL_judges 529 = .ok (.bipush 36, 2) := by decide +kernel
theorem dL_judges_531 : decode cL_judges 531 = .ok (.invokevirtual 95, 3) := by decide +kernel
theorem dL_judges_534 : decode cL_judges 534 = .ok (.iconst (-1), 1) := by decide +kernel
theorem dL_judges_535 : decode cL_judges 535 = .ok (.if_icmp .ne 55, 3) := by decide +kernel
theorem dL_judges_538 : decode cL_judges 538 = .ok (.aload_n 0, 1) := by decide +kernel
theorem dL_judges_539 : decode cL_judges 539 = .ok (.sipush 9999, 3) := by decide +kernel
theorem dL_judges_542 : decode cL_judges 542 = .ok (.bipush 60, 2) := by decide +kernel
theorem dL_judges_544 : decode cL_judges 544 = .ok (.invokevirtual 95, 3) := by decide +kernel
theorem dL_judges_547 : decode cL_judges 547 = .ok (.iconst (-1), 1) := by decide +kernel
theorem dL_judges_548 : decode cL_judges 548 = .ok (.if_icmp .ne 42, 3) := by decide +kernel
theorem dL_judges_551 : decode cL_judges 551 = .ok (.aload_n 0, 1) := by decide +kernel
theorem dL_judges_552 : decode cL_judges 552 = .ok (.sipush 9999, 3) := by decide +kernel
theorem dL_judges_555 : decode cL_judges 555 = .ok (.iconst 0, 1) := by decide +kernel
theorem dL_judges_556 : decode cL_judges 556 = .ok (.invokevirtual 95, 3) := by decide +kernel
theorem dL_judges_559 : decode cL_judges 559 = .ok (.sipush 11989, 3) := by decide +kernel
theorem dL_judges_562 : decode cL_judges 562 = .ok (.if_icmp .ne 28, 3) := by decide +kernel
theorem dL_judges_565 : decode cL_judges 565 = .ok (.aload_n 0, 1) := by decide +kernel
theorem dL_judges_566 : decode cL_judges 566 = .ok (.invokevirtual 134, 3) := by decide +kernel
theorem dL_judges_569 : decode cL_judges 569 = .ok (.ifCond .eq 21, 3) := by decide +kernel
theorem dL_judges_572 : decode cL_judges 572 = .ok (.aload_n 0, 1) := by decide +kernel
theorem dL_judges_573 : decode cL_judges 573 = .ok (.iconst 4, 1) := by decide +kernel
theorem dL_judges_574 : decode cL_judges 574 = .ok (.bipush 12, 2) := by decide +kernel
theorem dL_judges_576 : decode cL_judges 576 = .ok (.bipush 12, 2) := by decide +kernel
theorem dL_judges_578 : decode cL_judges 578 = .ok (.bipush 10, 2) := by decide +kernel
theorem dL_judges_580 : decode cL_judges 580 = .ok (.invokestatic 130, 3) := by decide +kernel
theorem dL_judges_583 : decode cL_judges 583 = .ok (.ifCond .eq 7, 3) := by decide +kernel
theorem dL_judges_586 : decode cL_judges 586 = .ok (.iconst 1, 1) := by decide +kernel
theorem dL_judges_587 : decode cL_judges 587 = .ok (.goto 4, 3) := by decide +kernel
theorem dL_judges_590 : decode cL_judges 590 = .ok (.iconst 0, 1) := by decide +kernel
theorem dL_judges_591 : decode cL_judges 591 = .ok (.ireturn, 1) := by decide +kernel
def fL_jdA (m : dM) : Option dM := (fL_act m 0 4 (10 * 0) 0 400 60).bind (fun q => dP2 q (fun v3 m2 => if (lg_cmp v3 (Int32.toInt64 0)) = 0 then (fL_act m2 0 4 (10 * 1) 0 400 60).bind (fun q => dP2 q (fun v6 m5 => if (lg_cmp v6 (Int32.toInt64 1)) = 0 then (fL_act m5 0 4 (10 * 2) 0 400 60).bind (fun q => dP2 q (fun v9 m8 => if (lg_cmp v9 (Int32.toInt64 2)) = 0 then (fL_act m8 0 4 (10 * 3) 0 400 60).bind (fun q => dP2 q (fun v12 m11 => if (lg_cmp v12 (Int32.toInt64 3)) = 0 then (fL_act m11 0 4 (10 * 4) 0 400 60).bind (fun q => dP2 q (fun v15 m14 => if (lg_cmp v15 (Int32.toInt64 4)) = 0 then (fL_act m14 0 4 (10 * 5) 0 400 60).bind (fun q => dP2 q (fun v18 m17 => if (lg_cmp v18 (Int32.toInt64 5)) = 0 then (fL_act m17 0 4 (10 * 6) 0 400 60).bind (fun q => dP2 q (fun v21 m20 => if (lg_cmp v21 (Int32.toInt64 6)) = 0 then (fL_act m20 0 4 (10 * 7) 0 400 60).bind (fun q => dP2 q (fun v24 m23 => if (lg_cmp v24 (Int32.toInt64 7)) = 0 then (fL_act m23 0 4 (10 * 8) 0 400 60).bind (fun q => dP2 q (fun v27 m26 => if (lg_cmp v27 (Int32.toInt64 8)) = 0 then (fL_act m26 0 4 (10 * 9) 0 400 60).bind (fun q => dP2 q (fun v30 m29 => if (lg_cmp v30 (Int32.toInt64 9)) = 0 then (fL_act m29 0 4 (10 * 10) 0 400 60).bind (fun q => dP2 q (fun v33 m32 => if (lg_cmp v33 (Int32.toInt64 10)) = 0 then (fL_act m32 0 4 (10 * 11) 0 400 60).bind (fun q => dP2 q (fun v36 m35 => if (lg_cmp v36 (Int32.toInt64 11)) = 0 then (fL_act m35 0 4 (10 * 12) 0 400 60).bind (fun q => dP2 q (fun v39 m38 => if (lg_cmp v39 (-73)) = 0 then some m38 else none)) else none)) else none)) else none)) else none)) else none)) else none)) else none)) else none)) else none)) else none)) else none)) else none))
set_option maxHeartbeats 4000000 in
set_option maxRecDepth 100000 in
theorem kL_jdA {p : Program} {l : Launch} {e : Env} {s : State} {mth : MethodId} {below : List Frame} {meth : Method} {c : Code} {g : dG} {Q : State → Prop} {H : Heap} {cells slots : Nat} {ls : Array Slot} {m m9 : dM} {K : Heap → Prop} (hst : l.stackTraces = false) (S : CallFix p mth c cL_judges 2 s (([] : List Value).toArray) wsL_judges RL) (hE : dEw g s) (hKs : ∀ H H1 : Heap, (∀ q, q < g.2.2.2 → H1[q]? = H[q]?) → K H → K H1) (hR : cells + 52 ≤ (headSpec wsL_judges (dDm 12 249 1561 10079)).room.cells ∧ slots + 312 ≤ (headSpec wsL_judges (dDm 12 249 1561 10079)).room.slots) (h : fL_jdA m = some m9) (hP : va_P g.1 vwCl (dws g m) H) (hS : va_S (dAs s) s.heap H []) (hb : g.2.2.2 ≤ H.size) (hK : K H) (hl : lv_has ls 2 [(0, .ref (dad g 0))])
    (kk : ∀ (H : Heap) (ls : Array Slot) (cells2 slots2 : Nat), cells2 ≤ cells + 52 → slots2 ≤ slots + 312 → va_P g.1 vwCl (dws g m9) H → va_S (dAs s) s.heap H [] → g.2.2.2 ≤ H.size → K H → lv_has ls 2 [(0, .ref (dad g 0))] → W p l e (headSpec wsL_judges (dDm 12 249 1561 10079)).room s mth (([] : List Value).toArray) below meth c H [] cells2 slots2 Q (F0 mth 57 ls [])) : W p l e (headSpec wsL_judges (dDm 12 249 1561 10079)).room s mth (([] : List Value).toArray) below meth c H [] cells slots Q (F0 mth 8 ls []) := by
  obtain ⟨hR1, hR2⟩ := hR
  unfold fL_jdA at h
  refine lv_iconst (v := 0) S.1 S.2.1 dL_judges_8 (by decide) ?_
  refine lv_istore_n (lv' := [(1, .int 0), (0, .ref (dad g 0))]) S.1 S.2.1 dL_judges_9 rfl hl (by decide) rfl (fun ls hl => ?_)
  refine lv_iload_n S.1 S.2.1 dL_judges_10 rfl (lv_at hl 0 rfl) ?_
  refine lv_bipush (v := 13) S.1 S.2.1 dL_judges_11 (by decide) ?_
  refine lv_icmp_ge (tgt := 57) S.1 S.2.1 dL_judges_13 (by decide) (fun cq => ?_) (fun cq => ?_)
  · exact absurd cq (by decide)
  · refine lv_aload_n S.1 S.2.1 dL_judges_16 rfl (lv_at hl 1 rfl) ?_
    refine lv_iconst (v := 4) S.1 S.2.1 dL_judges_17 (by decide) ?_
    refine lv_bipush (v := 10) S.1 S.2.1 dL_judges_18 (by decide) ?_
    refine lv_iload_n S.1 S.2.1 dL_judges_20 rfl (lv_at hl 0 rfl) ?_
    refine lv_imul S.1 S.2.1 dL_judges_21 ?_
    refine lv_iconst (v := 0) S.1 S.2.1 dL_judges_22 (by decide) ?_
    refine lv_sipush (v := 400) S.1 S.2.1 dL_judges_23 (by decide) ?_
    refine lv_bipush (v := 60) S.1 S.2.1 dL_judges_26 (by decide) ?_
    obtain ⟨⟨v3, m2⟩, hc1, h⟩ := d_b h
    have h := d_p2 h
    refine dwLj (vx_runSX (As := [.ref (dad g 0), .int 4, .int (10 * 0), .int 0, .int 400, .int 60]) (rest := []) S (kL_act l g hst hc1) (vx_cwSW 6 S.2.2.2.2 gL_judges_L_act rfl rfl rfl ynL_act ⟨(Nat.le_of_ble_eq_true rfl), (Nat.le_of_ble_eq_true rfl)⟩) (dwS hE hP hS hb) rfl rfl hl.1 rfl (lv_room (Nat.le_of_ble_eq_true rfl)) dL_judges_28 ⟨by omega, by omega⟩) hE hS hb hKs hK (fun H hP hS hb hK => ?_)
    refine lv_iload_n S.1 S.2.1 dL_judges_31 rfl (lv_at hl 0 rfl) ?_
    refine lv_bipush (v := 12) S.1 S.2.1 dL_judges_32 (by decide) ?_
    refine lv_icmp_ge (tgt := 42) S.1 S.2.1 dL_judges_34 (by decide) (fun cq => ?_) (fun cq => ?_)
    · exact absurd cq (by decide)
    · refine lv_iload_n S.1 S.2.1 dL_judges_37 rfl (lv_at hl 0 rfl) ?_
      refine lv_i2l S.1 S.2.1 dL_judges_38 rfl ?_
      refine lv_goto (tgt := 45) S.1 S.2.1 dL_judges_39 (by decide) ?_
      refine W.lcmp S.1 S.2.1 dL_judges_45 ?_
      refine lv_if_eq (tgt := 51) S.1 S.2.1 dL_judges_46 (by decide) (fun cq => ?_) (fun cq => ?_)
      · have h := d_t cq h
        refine lv_iinc (v := 1) (lv' := [(1, .int 1), (0, .ref (dad g 0))]) S.1 S.2.1 dL_judges_51 hl (k := 0) rfl (by decide) (by decide) rfl (fun ls hl => ?_)
        refine lv_goto (tgt := 10) S.1 S.2.1 dL_judges_54 (by decide) ?_
        refine lv_iload_n S.1 S.2.1 dL_judges_10 rfl (lv_at hl 0 rfl) ?_
        refine lv_bipush (v := 13) S.1 S.2.1 dL_judges_11 (by decide) ?_
        refine lv_icmp_ge (tgt := 57) S.1 S.2.1 dL_judges_13 (by decide) (fun cq => ?_) (fun cq => ?_)
        · exact absurd cq (by decide)
        · refine lv_aload_n S.1 S.2.1 dL_judges_16 rfl (lv_at hl 1 rfl) ?_
          refine lv_iconst (v := 4) S.1 S.2.1 dL_judges_17 (by decide) ?_
          refine lv_bipush (v := 10) S.1 S.2.1 dL_judges_18 (by decide) ?_
          refine lv_iload_n S.1 S.2.1 dL_judges_20 rfl (lv_at hl 0 rfl) ?_
          refine lv_imul S.1 S.2.1 dL_judges_21 ?_
          refine lv_iconst (v := 0) S.1 S.2.1 dL_judges_22 (by decide) ?_
          refine lv_sipush (v := 400) S.1 S.2.1 dL_judges_23 (by decide) ?_
          refine lv_bipush (v := 60) S.1 S.2.1 dL_judges_26 (by decide) ?_
          obtain ⟨⟨v6, m5⟩, hc4, h⟩ := d_b h
          have h := d_p2 h
          refine dwLj (vx_runSX (As := [.ref (dad g 0), .int 4, .int (10 * 1), .int 0, .int 400, .int 60]) (rest := []) S (kL_act l g hst hc4) (vx_cwSW 6 S.2.2.2.2 gL_judges_L_act rfl rfl rfl ynL_act ⟨(Nat.le_of_ble_eq_true rfl), (Nat.le_of_ble_eq_true rfl)⟩) (dwS hE hP hS hb) rfl rfl hl.1 rfl (lv_room (Nat.le_of_ble_eq_true rfl)) dL_judges_28 ⟨by omega, by omega⟩) hE hS hb hKs hK (fun H hP hS hb hK => ?_)
          refine lv_iload_n S.1 S.2.1 dL_judges_31 rfl (lv_at hl 0 rfl) ?_
          refine lv_bipush (v := 12) S.1 S.2.1 dL_judges_32 (by decide) ?_
          refine lv_icmp_ge (tgt := 42) S.1 S.2.1 dL_judges_34 (by decide) (fun cq => ?_) (fun cq => ?_)
          · exact absurd cq (by decide)
          · refine lv_iload_n S.1 S.2.1 dL_judges_37 rfl (lv_at hl 0 rfl) ?_
            refine lv_i2l S.1 S.2.1 dL_judges_38 rfl ?_
            refine lv_goto (tgt := 45) S.1 S.2.1 dL_judges_39 (by decide) ?_
            refine W.lcmp S.1 S.2.1 dL_judges_45 ?_
            refine lv_if_eq (tgt := 51) S.1 S.2.1 dL_judges_46 (by decide) (fun cq => ?_) (fun cq => ?_)
            · have h := d_t cq h
              refine lv_iinc (v := 2) (lv' := [(1, .int 2), (0, .ref (dad g 0))]) S.1 S.2.1 dL_judges_51 hl (k := 0) rfl (by decide) (by decide) rfl (fun ls hl => ?_)
              refine lv_goto (tgt := 10) S.1 S.2.1 dL_judges_54 (by decide) ?_
              refine lv_iload_n S.1 S.2.1 dL_judges_10 rfl (lv_at hl 0 rfl) ?_
              refine lv_bipush (v := 13) S.1 S.2.1 dL_judges_11 (by decide) ?_
              refine lv_icmp_ge (tgt := 57) S.1 S.2.1 dL_judges_13 (by decide) (fun cq => ?_) (fun cq => ?_)
              · exact absurd cq (by decide)
              · refine lv_aload_n S.1 S.2.1 dL_judges_16 rfl (lv_at hl 1 rfl) ?_
                refine lv_iconst (v := 4) S.1 S.2.1 dL_judges_17 (by decide) ?_
                refine lv_bipush (v := 10) S.1 S.2.1 dL_judges_18 (by decide) ?_
                refine lv_iload_n S.1 S.2.1 dL_judges_20 rfl (lv_at hl 0 rfl) ?_
                refine lv_imul S.1 S.2.1 dL_judges_21 ?_
                refine lv_iconst (v := 0) S.1 S.2.1 dL_judges_22 (by decide) ?_
                refine lv_sipush (v := 400) S.1 S.2.1 dL_judges_23 (by decide) ?_
                refine lv_bipush (v := 60) S.1 S.2.1 dL_judges_26 (by decide) ?_
                obtain ⟨⟨v9, m8⟩, hc7, h⟩ := d_b h
                have h := d_p2 h
                refine dwLj (vx_runSX (As := [.ref (dad g 0), .int 4, .int (10 * 2), .int 0, .int 400, .int 60]) (rest := []) S (kL_act l g hst hc7) (vx_cwSW 6 S.2.2.2.2 gL_judges_L_act rfl rfl rfl ynL_act ⟨(Nat.le_of_ble_eq_true rfl), (Nat.le_of_ble_eq_true rfl)⟩) (dwS hE hP hS hb) rfl rfl hl.1 rfl (lv_room (Nat.le_of_ble_eq_true rfl)) dL_judges_28 ⟨by omega, by omega⟩) hE hS hb hKs hK (fun H hP hS hb hK => ?_)
                refine lv_iload_n S.1 S.2.1 dL_judges_31 rfl (lv_at hl 0 rfl) ?_
                refine lv_bipush (v := 12) S.1 S.2.1 dL_judges_32 (by decide) ?_
                refine lv_icmp_ge (tgt := 42) S.1 S.2.1 dL_judges_34 (by decide) (fun cq => ?_) (fun cq => ?_)
                · exact absurd cq (by decide)
                · refine lv_iload_n S.1 S.2.1 dL_judges_37 rfl (lv_at hl 0 rfl) ?_
                  refine lv_i2l S.1 S.2.1 dL_judges_38 rfl ?_
                  refine lv_goto (tgt := 45) S.1 S.2.1 dL_judges_39 (by decide) ?_
                  refine W.lcmp S.1 S.2.1 dL_judges_45 ?_
                  refine lv_if_eq (tgt := 51) S.1 S.2.1 dL_judges_46 (by decide) (fun cq => ?_) (fun cq => ?_)
                  · have h := d_t cq h
                    refine lv_iinc (v := 3) (lv' := [(1, .int 3), (0, .ref (dad g 0))]) S.1 S.2.1 dL_judges_51 hl (k := 0) rfl (by decide) (by decide) rfl (fun ls hl => ?_)
                    refine lv_goto (tgt := 10) S.1 S.2.1 dL_judges_54 (by decide) ?_
                    refine lv_iload_n S.1 S.2.1 dL_judges_10 rfl (lv_at hl 0 rfl) ?_
                    refine lv_bipush (v := 13) S.1 S.2.1 dL_judges_11 (by decide) ?_
                    refine lv_icmp_ge (tgt := 57) S.1 S.2.1 dL_judges_13 (by decide) (fun cq => ?_) (fun cq => ?_)
                    · exact absurd cq (by decide)
                    · refine lv_aload_n S.1 S.2.1 dL_judges_16 rfl (lv_at hl 1 rfl) ?_
                      refine lv_iconst (v := 4) S.1 S.2.1 dL_judges_17 (by decide) ?_
                      refine lv_bipush (v := 10) S.1 S.2.1 dL_judges_18 (by decide) ?_
                      refine lv_iload_n S.1 S.2.1 dL_judges_20 rfl (lv_at hl 0 rfl) ?_
                      refine lv_imul S.1 S.2.1 dL_judges_21 ?_
                      refine lv_iconst (v := 0) S.1 S.2.1 dL_judges_22 (by decide) ?_
                      refine lv_sipush (v := 400) S.1 S.2.1 dL_judges_23 (by decide) ?_
                      refine lv_bipush (v := 60) S.1 S.2.1 dL_judges_26 (by decide) ?_
                      obtain ⟨⟨v12, m11⟩, hc10, h⟩ := d_b h
                      have h := d_p2 h
                      refine dwLj (vx_runSX (As := [.ref (dad g 0), .int 4, .int (10 * 3), .int 0, .int 400, .int 60]) (rest := []) S (kL_act l g hst hc10) (vx_cwSW 6 S.2.2.2.2 gL_judges_L_act rfl rfl rfl ynL_act ⟨(Nat.le_of_ble_eq_true rfl), (Nat.le_of_ble_eq_true rfl)⟩) (dwS hE hP hS hb) rfl rfl hl.1 rfl (lv_room (Nat.le_of_ble_eq_true rfl)) dL_judges_28 ⟨by omega, by omega⟩) hE hS hb hKs hK (fun H hP hS hb hK => ?_)
                      refine lv_iload_n S.1 S.2.1 dL_judges_31 rfl (lv_at hl 0 rfl) ?_
                      refine lv_bipush (v := 12) S.1 S.2.1 dL_judges_32 (by decide) ?_
                      refine lv_icmp_ge (tgt := 42) S.1 S.2.1 dL_judges_34 (by decide) (fun cq => ?_) (fun cq => ?_)
                      · exact absurd cq (by decide)
                      · refine lv_iload_n S.1 S.2.1 dL_judges_37 rfl (lv_at hl 0 rfl) ?_
                        refine lv_i2l S.1 S.2.1 dL_judges_38 rfl ?_
                        refine lv_goto (tgt := 45) S.1 S.2.1 dL_judges_39 (by decide) ?_
                        refine W.lcmp S.1 S.2.1 dL_judges_45 ?_
                        refine lv_if_eq (tgt := 51) S.1 S.2.1 dL_judges_46 (by decide) (fun cq => ?_) (fun cq => ?_)
                        · have h := d_t cq h
                          refine lv_iinc (v := 4) (lv' := [(1, .int 4), (0, .ref (dad g 0))]) S.1 S.2.1 dL_judges_51 hl (k := 0) rfl (by decide) (by decide) rfl (fun ls hl => ?_)
                          refine lv_goto (tgt := 10) S.1 S.2.1 dL_judges_54 (by decide) ?_
                          refine lv_iload_n S.1 S.2.1 dL_judges_10 rfl (lv_at hl 0 rfl) ?_
                          refine lv_bipush (v := 13) S.1 S.2.1 dL_judges_11 (by decide) ?_
                          refine lv_icmp_ge (tgt := 57) S.1 S.2.1 dL_judges_13 (by decide) (fun cq => ?_) (fun cq => ?_)
                          · exact absurd cq (by decide)
                          · refine lv_aload_n S.1 S.2.1 dL_judges_16 rfl (lv_at hl 1 rfl) ?_
                            refine lv_iconst (v := 4) S.1 S.2.1 dL_judges_17 (by decide) ?_
                            refine lv_bipush (v := 10) S.1 S.2.1 dL_judges_18 (by decide) ?_
                            refine lv_iload_n S.1 S.2.1 dL_judges_20 rfl (lv_at hl 0 rfl) ?_
                            refine lv_imul S.1 S.2.1 dL_judges_21 ?_
                            refine lv_iconst (v := 0) S.1 S.2.1 dL_judges_22 (by decide) ?_
                            refine lv_sipush (v := 400) S.1 S.2.1 dL_judges_23 (by decide) ?_
                            refine lv_bipush (v := 60) S.1 S.2.1 dL_judges_26 (by decide) ?_
                            obtain ⟨⟨v15, m14⟩, hc13, h⟩ := d_b h
                            have h := d_p2 h
                            refine dwLj (vx_runSX (As := [.ref (dad g 0), .int 4, .int (10 * 4), .int 0, .int 400, .int 60]) (rest := []) S (kL_act l g hst hc13) (vx_cwSW 6 S.2.2.2.2 gL_judges_L_act rfl rfl rfl ynL_act ⟨(Nat.le_of_ble_eq_true rfl), (Nat.le_of_ble_eq_true rfl)⟩) (dwS hE hP hS hb) rfl rfl hl.1 rfl (lv_room (Nat.le_of_ble_eq_true rfl)) dL_judges_28 ⟨by omega, by omega⟩) hE hS hb hKs hK (fun H hP hS hb hK => ?_)
                            refine lv_iload_n S.1 S.2.1 dL_judges_31 rfl (lv_at hl 0 rfl) ?_
                            refine lv_bipush (v := 12) S.1 S.2.1 dL_judges_32 (by decide) ?_
                            refine lv_icmp_ge (tgt := 42) S.1 S.2.1 dL_judges_34 (by decide) (fun cq => ?_) (fun cq => ?_)
                            · exact absurd cq (by decide)
                            · refine lv_iload_n S.1 S.2.1 dL_judges_37 rfl (lv_at hl 0 rfl) ?_
                              refine lv_i2l S.1 S.2.1 dL_judges_38 rfl ?_
                              refine lv_goto (tgt := 45) S.1 S.2.1 dL_judges_39 (by decide) ?_
                              refine W.lcmp S.1 S.2.1 dL_judges_45 ?_
                              refine lv_if_eq (tgt := 51) S.1 S.2.1 dL_judges_46 (by decide) (fun cq => ?_) (fun cq => ?_)
                              · have h := d_t cq h
                                refine lv_iinc (v := 5) (lv' := [(1, .int 5), (0, .ref (dad g 0))]) S.1 S.2.1 dL_judges_51 hl (k := 0) rfl (by decide) (by decide) rfl (fun ls hl => ?_)
                                refine lv_goto (tgt := 10) S.1 S.2.1 dL_judges_54 (by decide) ?_
                                refine lv_iload_n S.1 S.2.1 dL_judges_10 rfl (lv_at hl 0 rfl) ?_
                                refine lv_bipush (v := 13) S.1 S.2.1 dL_judges_11 (by decide) ?_
                                refine lv_icmp_ge (tgt := 57) S.1 S.2.1 dL_judges_13 (by decide) (fun cq => ?_) (fun cq => ?_)
                                · exact absurd cq (by decide)
                                · refine lv_aload_n S.1 S.2.1 dL_judges_16 rfl (lv_at hl 1 rfl) ?_
                                  refine lv_iconst (v := 4) S.1 S.2.1 dL_judges_17 (by decide) ?_
                                  refine lv_bipush (v := 10) S.1 S.2.1 dL_judges_18 (by decide) ?_
                                  refine lv_iload_n S.1 S.2.1 dL_judges_20 rfl (lv_at hl 0 rfl) ?_
                                  refine lv_imul S.1 S.2.1 dL_judges_21 ?_
                                  refine lv_iconst (v := 0) S.1 S.2.1 dL_judges_22 (by decide) ?_
                                  refine lv_sipush (v := 400) S.1 S.2.1 dL_judges_23 (by decide) ?_
                                  refine lv_bipush (v := 60) S.1 S.2.1 dL_judges_26 (by decide) ?_
                                  obtain ⟨⟨v18, m17⟩, hc16, h⟩ := d_b h
                                  have h := d_p2 h
                                  refine dwLj (vx_runSX (As := [.ref (dad g 0), .int 4, .int (10 * 5), .int 0, .int 400, .int 60]) (rest := []) S (kL_act l g hst hc16) (vx_cwSW 6 S.2.2.2.2 gL_judges_L_act rfl rfl rfl ynL_act ⟨(Nat.le_of_ble_eq_true rfl), (Nat.le_of_ble_eq_true rfl)⟩) (dwS hE hP hS hb) rfl rfl hl.1 rfl (lv_room (Nat.le_of_ble_eq_true rfl)) dL_judges_28 ⟨by omega, by omega⟩) hE hS hb hKs hK (fun H hP hS hb hK => ?_)
                                  refine lv_iload_n S.1 S.2.1 dL_judges_31 rfl (lv_at hl 0 rfl) ?_
                                  refine lv_bipush (v := 12) S.1 S.2.1 dL_judges_32 (by decide) ?_
                                  refine lv_icmp_ge (tgt := 42) S.1 S.2.1 dL_judges_34 (by decide) (fun cq => ?_) (fun cq => ?_)
                                  · exact absurd cq (by decide)
                                  · refine lv_iload_n S.1 S.2.1 dL_judges_37 rfl (lv_at hl 0 rfl) ?_
                                    refine lv_i2l S.1 S.2.1 dL_judges_38 rfl ?_
                                    refine lv_goto (tgt := 45) S.1 S.2.1 dL_judges_39 (by decide) ?_
                                    refine W.lcmp S.1 S.2.1 dL_judges_45 ?_
                                    refine lv_if_eq (tgt := 51) S.1 S.2.1 dL_judges_46 (by decide) (fun cq => ?_) (fun cq => ?_)
                                    · have h := d_t cq h
                                      refine lv_iinc (v := 6) (lv' := [(1, .int 6), (0, .ref (dad g 0))]) S.1 S.2.1 dL_judges_51 hl (k := 0) rfl (by decide) (by decide) rfl (fun ls hl => ?_)
                                      refine lv_goto (tgt := 10) S.1 S.2.1 dL_judges_54 (by decide) ?_
                                      refine lv_iload_n S.1 S.2.1 dL_judges_10 rfl (lv_at hl 0 rfl) ?_
                                      refine lv_bipush (v := 13) S.1 S.2.1 dL_judges_11 (by decide) ?_
                                      refine lv_icmp_ge (tgt := 57) S.1 S.2.1 dL_judges_13 (by decide) (fun cq => ?_) (fun cq => ?_)
                                      · exact absurd cq (by decide)
                                      · refine lv_aload_n S.1 S.2.1 dL_judges_16 rfl (lv_at hl 1 rfl) ?_
                                        refine lv_iconst (v := 4) S.1 S.2.1 dL_judges_17 (by decide) ?_
                                        refine lv_bipush (v := 10) S.1 S.2.1 dL_judges_18 (by decide) ?_
                                        refine lv_iload_n S.1 S.2.1 dL_judges_20 rfl (lv_at hl 0 rfl) ?_
                                        refine lv_imul S.1 S.2.1 dL_judges_21 ?_
                                        refine lv_iconst (v := 0) S.1 S.2.1 dL_judges_22 (by decide) ?_
                                        refine lv_sipush (v := 400) S.1 S.2.1 dL_judges_23 (by decide) ?_
                                        refine lv_bipush (v := 60) S.1 S.2.1 dL_judges_26 (by decide) ?_
                                        obtain ⟨⟨v21, m20⟩, hc19, h⟩ := d_b h
                                        have h := d_p2 h
                                        refine dwLj (vx_runSX (As := [.ref (dad g 0), .int 4, .int (10 * 6), .int 0, .int 400, .int 60]) (rest := []) S (kL_act l g hst hc19) (vx_cwSW 6 S.2.2.2.2 gL_judges_L_act rfl rfl rfl ynL_act ⟨(Nat.le_of_ble_eq_true rfl), (Nat.le_of_ble_eq_true rfl)⟩) (dwS hE hP hS hb) rfl rfl hl.1 rfl (lv_room (Nat.le_of_ble_eq_true rfl)) dL_judges_28 ⟨by omega, by omega⟩) hE hS hb hKs hK (fun H hP hS hb hK => ?_)
                                        refine lv_iload_n S.1 S.2.1 dL_judges_31 rfl (lv_at hl 0 rfl) ?_
                                        refine lv_bipush (v := 12) S.1 S.2.1 dL_judges_32 (by decide) ?_
                                        refine lv_icmp_ge (tgt := 42) S.1 S.2.1 dL_judges_34 (by decide) (fun cq => ?_) (fun cq => ?_)
                                        · exact absurd cq (by decide)
                                        · refine lv_iload_n S.1 S.2.1 dL_judges_37 rfl (lv_at hl 0 rfl) ?_
                                          refine lv_i2l S.1 S.2.1 dL_judges_38 rfl ?_
                                          refine lv_goto (tgt := 45) S.1 S.2.1 dL_judges_39 (by decide) ?_
                                          refine W.lcmp S.1 S.2.1 dL_judges_45 ?_
                                          refine lv_if_eq (tgt := 51) S.1 S.2.1 dL_judges_46 (by decide) (fun cq => ?_) (fun cq => ?_)
                                          · have h := d_t cq h
                                            refine lv_iinc (v := 7) (lv' := [(1, .int 7), (0, .ref (dad g 0))]) S.1 S.2.1 dL_judges_51 hl (k := 0) rfl (by decide) (by decide) rfl (fun ls hl => ?_)
                                            refine lv_goto (tgt := 10) S.1 S.2.1 dL_judges_54 (by decide) ?_
                                            refine lv_iload_n S.1 S.2.1 dL_judges_10 rfl (lv_at hl 0 rfl) ?_
                                            refine lv_bipush (v := 13) S.1 S.2.1 dL_judges_11 (by decide) ?_
                                            refine lv_icmp_ge (tgt := 57) S.1 S.2.1 dL_judges_13 (by decide) (fun cq => ?_) (fun cq => ?_)
                                            · exact absurd cq (by decide)
                                            · refine lv_aload_n S.1 S.2.1 dL_judges_16 rfl (lv_at hl 1 rfl) ?_
                                              refine lv_iconst (v := 4) S.1 S.2.1 dL_judges_17 (by decide) ?_
                                              refine lv_bipush (v := 10) S.1 S.2.1 dL_judges_18 (by decide) ?_
                                              refine lv_iload_n S.1 S.2.1 dL_judges_20 rfl (lv_at hl 0 rfl) ?_
                                              refine lv_imul S.1 S.2.1 dL_judges_21 ?_
                                              refine lv_iconst (v := 0) S.1 S.2.1 dL_judges_22 (by decide) ?_
                                              refine lv_sipush (v := 400) S.1 S.2.1 dL_judges_23 (by decide) ?_
                                              refine lv_bipush (v := 60) S.1 S.2.1 dL_judges_26 (by decide) ?_
                                              obtain ⟨⟨v24, m23⟩, hc22, h⟩ := d_b h
                                              have h := d_p2 h
                                              refine dwLj (vx_runSX (As := [.ref (dad g 0), .int 4, .int (10 * 7), .int 0, .int 400, .int 60]) (rest := []) S (kL_act l g hst hc22) (vx_cwSW 6 S.2.2.2.2 gL_judges_L_act rfl rfl rfl ynL_act ⟨(Nat.le_of_ble_eq_true rfl), (Nat.le_of_ble_eq_true rfl)⟩) (dwS hE hP hS hb) rfl rfl hl.1 rfl (lv_room (Nat.le_of_ble_eq_true rfl)) dL_judges_28 ⟨by omega, by omega⟩) hE hS hb hKs hK (fun H hP hS hb hK => ?_)
                                              refine lv_iload_n S.1 S.2.1 dL_judges_31 rfl (lv_at hl 0 rfl) ?_
                                              refine lv_bipush (v := 12) S.1 S.2.1 dL_judges_32 (by decide) ?_
                                              refine lv_icmp_ge (tgt := 42) S.1 S.2.1 dL_judges_34 (by decide) (fun cq => ?_) (fun cq => ?_)
                                              · exact absurd cq (by decide)
                                              · refine lv_iload_n S.1 S.2.1 dL_judges_37 rfl (lv_at hl 0 rfl) ?_
                                                refine lv_i2l S.1 S.2.1 dL_judges_38 rfl ?_
                                                refine lv_goto (tgt := 45) S.1 S.2.1 dL_judges_39 (by decide) ?_
                                                refine W.lcmp S.1 S.2.1 dL_judges_45 ?_
                                                refine lv_if_eq (tgt := 51) S.1 S.2.1 dL_judges_46 (by decide) (fun cq => ?_) (fun cq => ?_)
                                                · have h := d_t cq h
                                                  refine lv_iinc (v := 8) (lv' := [(1, .int 8), (0, .ref (dad g 0))]) S.1 S.2.1 dL_judges_51 hl (k := 0) rfl (by decide) (by decide) rfl (fun ls hl => ?_)
                                                  refine lv_goto (tgt := 10) S.1 S.2.1 dL_judges_54 (by decide) ?_
                                                  refine lv_iload_n S.1 S.2.1 dL_judges_10 rfl (lv_at hl 0 rfl) ?_
                                                  refine lv_bipush (v := 13) S.1 S.2.1 dL_judges_11 (by decide) ?_
                                                  refine lv_icmp_ge (tgt := 57) S.1 S.2.1 dL_judges_13 (by decide) (fun cq => ?_) (fun cq => ?_)
                                                  · exact absurd cq (by decide)
                                                  · refine lv_aload_n S.1 S.2.1 dL_judges_16 rfl (lv_at hl 1 rfl) ?_
                                                    refine lv_iconst (v := 4) S.1 S.2.1 dL_judges_17 (by decide) ?_
                                                    refine lv_bipush (v := 10) S.1 S.2.1 dL_judges_18 (by decide) ?_
                                                    refine lv_iload_n S.1 S.2.1 dL_judges_20 rfl (lv_at hl 0 rfl) ?_
                                                    refine lv_imul S.1 S.2.1 dL_judges_21 ?_
                                                    refine lv_iconst (v := 0) S.1 S.2.1 dL_judges_22 (by decide) ?_
                                                    refine lv_sipush (v := 400) S.1 S.2.1 dL_judges_23 (by decide) ?_
                                                    refine lv_bipush (v := 60) S.1 S.2.1 dL_judges_26 (by decide) ?_
                                                    obtain ⟨⟨v27, m26⟩, hc25, h⟩ := d_b h
                                                    have h := d_p2 h
                                                    refine dwLj (vx_runSX (As := [.ref (dad g 0), .int 4, .int (10 * 8), .int 0, .int 400, .int 60]) (rest := []) S (kL_act l g hst hc25) (vx_cwSW 6 S.2.2.2.2 gL_judges_L_act rfl rfl rfl ynL_act ⟨(Nat.le_of_ble_eq_true rfl), (Nat.le_of_ble_eq_true rfl)⟩) (dwS hE hP hS hb) rfl rfl hl.1 rfl (lv_room (Nat.le_of_ble_eq_true rfl)) dL_judges_28 ⟨by omega, by omega⟩) hE hS hb hKs hK (fun H hP hS hb hK => ?_)
                                                    refine lv_iload_n S.1 S.2.1 dL_judges_31 rfl (lv_at hl 0 rfl) ?_
                                                    refine lv_bipush (v := 12) S.1 S.2.1 dL_judges_32 (by decide) ?_
                                                    refine lv_icmp_ge (tgt := 42) S.1 S.2.1 dL_judges_34 (by decide) (fun cq => ?_) (fun cq => ?_)
                                                    · exact absurd cq (by decide)
                                                    · refine lv_iload_n S.1 S.2.1 dL_judges_37 rfl (lv_at hl 0 rfl) ?_
                                                      refine lv_i2l S.1 S.2.1 dL_judges_38 rfl ?_
                                                      refine lv_goto (tgt := 45) S.1 S.2.1 dL_judges_39 (by decide) ?_
                                                      refine W.lcmp S.1 S.2.1 dL_judges_45 ?_
                                                      refine lv_if_eq (tgt := 51) S.1 S.2.1 dL_judges_46 (by decide) (fun cq => ?_) (fun cq => ?_)
                                                      · have h := d_t cq h
                                                        refine lv_iinc (v := 9) (lv' := [(1, .int 9), (0, .ref (dad g 0))]) S.1 S.2.1 dL_judges_51 hl (k := 0) rfl (by decide) (by decide) rfl (fun ls hl => ?_)
                                                        refine lv_goto (tgt := 10) S.1 S.2.1 dL_judges_54 (by decide) ?_
                                                        refine lv_iload_n S.1 S.2.1 dL_judges_10 rfl (lv_at hl 0 rfl) ?_
                                                        refine lv_bipush (v := 13) S.1 S.2.1 dL_judges_11 (by decide) ?_
                                                        refine lv_icmp_ge (tgt := 57) S.1 S.2.1 dL_judges_13 (by decide) (fun cq => ?_) (fun cq => ?_)
                                                        · exact absurd cq (by decide)
                                                        · refine lv_aload_n S.1 S.2.1 dL_judges_16 rfl (lv_at hl 1 rfl) ?_
                                                          refine lv_iconst (v := 4) S.1 S.2.1 dL_judges_17 (by decide) ?_
                                                          refine lv_bipush (v := 10) S.1 S.2.1 dL_judges_18 (by decide) ?_
                                                          refine lv_iload_n S.1 S.2.1 dL_judges_20 rfl (lv_at hl 0 rfl) ?_
                                                          refine lv_imul S.1 S.2.1 dL_judges_21 ?_
                                                          refine lv_iconst (v := 0) S.1 S.2.1 dL_judges_22 (by decide) ?_
                                                          refine lv_sipush (v := 400) S.1 S.2.1 dL_judges_23 (by decide) ?_
                                                          refine lv_bipush (v := 60) S.1 S.2.1 dL_judges_26 (by decide) ?_
                                                          obtain ⟨⟨v30, m29⟩, hc28, h⟩ := d_b h
                                                          have h := d_p2 h
                                                          refine dwLj (vx_runSX (As := [.ref (dad g 0), .int 4, .int (10 * 9), .int 0, .int 400, .int 60]) (rest := []) S (kL_act l g hst hc28) (vx_cwSW 6 S.2.2.2.2 gL_judges_L_act rfl rfl rfl ynL_act ⟨(Nat.le_of_ble_eq_true rfl), (Nat.le_of_ble_eq_true rfl)⟩) (dwS hE hP hS hb) rfl rfl hl.1 rfl (lv_room (Nat.le_of_ble_eq_true rfl)) dL_judges_28 ⟨by omega, by omega⟩) hE hS hb hKs hK (fun H hP hS hb hK => ?_)
                                                          refine lv_iload_n S.1 S.2.1 dL_judges_31 rfl (lv_at hl 0 rfl) ?_
                                                          refine lv_bipush (v := 12) S.1 S.2.1 dL_judges_32 (by decide) ?_
                                                          refine lv_icmp_ge (tgt := 42) S.1 S.2.1 dL_judges_34 (by decide) (fun cq => ?_) (fun cq => ?_)
                                                          · exact absurd cq (by decide)
                                                          · refine lv_iload_n S.1 S.2.1 dL_judges_37 rfl (lv_at hl 0 rfl) ?_
                                                            refine lv_i2l S.1 S.2.1 dL_judges_38 rfl ?_
                                                            refine lv_goto (tgt := 45) S.1 S.2.1 dL_judges_39 (by decide) ?_
                                                            refine W.lcmp S.1 S.2.1 dL_judges_45 ?_
                                                            refine lv_if_eq (tgt := 51) S.1 S.2.1 dL_judges_46 (by decide) (fun cq => ?_) (fun cq => ?_)
                                                            · have h := d_t cq h
                                                              refine lv_iinc (v := 10) (lv' := [(1, .int 10), (0, .ref (dad g 0))]) S.1 S.2.1 dL_judges_51 hl (k := 0) rfl (by decide) (by decide) rfl (fun ls hl => ?_)
                                                              refine lv_goto (tgt := 10) S.1 S.2.1 dL_judges_54 (by decide) ?_
                                                              refine lv_iload_n S.1 S.2.1 dL_judges_10 rfl (lv_at hl 0 rfl) ?_
                                                              refine lv_bipush (v := 13) S.1 S.2.1 dL_judges_11 (by decide) ?_
                                                              refine lv_icmp_ge (tgt := 57) S.1 S.2.1 dL_judges_13 (by decide) (fun cq => ?_) (fun cq => ?_)
                                                              · exact absurd cq (by decide)
                                                              · refine lv_aload_n S.1 S.2.1 dL_judges_16 rfl (lv_at hl 1 rfl) ?_
                                                                refine lv_iconst (v := 4) S.1 S.2.1 dL_judges_17 (by decide) ?_
                                                                refine lv_bipush (v := 10) S.1 S.2.1 dL_judges_18 (by decide) ?_
                                                                refine lv_iload_n S.1 S.2.1 dL_judges_20 rfl (lv_at hl 0 rfl) ?_
                                                                refine lv_imul S.1 S.2.1 dL_judges_21 ?_
                                                                refine lv_iconst (v := 0) S.1 S.2.1 dL_judges_22 (by decide) ?_
                                                                refine lv_sipush (v := 400) S.1 S.2.1 dL_judges_23 (by decide) ?_
                                                                refine lv_bipush (v := 60) S.1 S.2.1 dL_judges_26 (by decide) ?_
                                                                obtain ⟨⟨v33, m32⟩, hc31, h⟩ := d_b h
                                                                have h := d_p2 h
                                                                refine dwLj (vx_runSX (As := [.ref (dad g 0), .int 4, .int (10 * 10), .int 0, .int 400, .int 60]) (rest := []) S (kL_act l g hst hc31) (vx_cwSW 6 S.2.2.2.2 gL_judges_L_act rfl rfl rfl ynL_act ⟨(Nat.le_of_ble_eq_true rfl), (Nat.le_of_ble_eq_true rfl)⟩) (dwS hE hP hS hb) rfl rfl hl.1 rfl (lv_room (Nat.le_of_ble_eq_true rfl)) dL_judges_28 ⟨by omega, by omega⟩) hE hS hb hKs hK (fun H hP hS hb hK => ?_)
                                                                refine lv_iload_n S.1 S.2.1 dL_judges_31 rfl (lv_at hl 0 rfl) ?_
                                                                refine lv_bipush (v := 12) S.1 S.2.1 dL_judges_32 (by decide) ?_
                                                                refine lv_icmp_ge (tgt := 42) S.1 S.2.1 dL_judges_34 (by decide) (fun cq => ?_) (fun cq => ?_)
                                                                · exact absurd cq (by decide)
                                                                · refine lv_iload_n S.1 S.2.1 dL_judges_37 rfl (lv_at hl 0 rfl) ?_
                                                                  refine lv_i2l S.1 S.2.1 dL_judges_38 rfl ?_
                                                                  refine lv_goto (tgt := 45) S.1 S.2.1 dL_judges_39 (by decide) ?_
                                                                  refine W.lcmp S.1 S.2.1 dL_judges_45 ?_
                                                                  refine lv_if_eq (tgt := 51) S.1 S.2.1 dL_judges_46 (by decide) (fun cq => ?_) (fun cq => ?_)
                                                                  · have h := d_t cq h
                                                                    refine lv_iinc (v := 11) (lv' := [(1, .int 11), (0, .ref (dad g 0))]) S.1 S.2.1 dL_judges_51 hl (k := 0) rfl (by decide) (by decide) rfl (fun ls hl => ?_)
                                                                    refine lv_goto (tgt := 10) S.1 S.2.1 dL_judges_54 (by decide) ?_
                                                                    refine lv_iload_n S.1 S.2.1 dL_judges_10 rfl (lv_at hl 0 rfl) ?_
                                                                    refine lv_bipush (v := 13) S.1 S.2.1 dL_judges_11 (by decide) ?_
                                                                    refine lv_icmp_ge (tgt := 57) S.1 S.2.1 dL_judges_13 (by decide) (fun cq => ?_) (fun cq => ?_)
                                                                    · exact absurd cq (by decide)
                                                                    · refine lv_aload_n S.1 S.2.1 dL_judges_16 rfl (lv_at hl 1 rfl) ?_
                                                                      refine lv_iconst (v := 4) S.1 S.2.1 dL_judges_17 (by decide) ?_
                                                                      refine lv_bipush (v := 10) S.1 S.2.1 dL_judges_18 (by decide) ?_
                                                                      refine lv_iload_n S.1 S.2.1 dL_judges_20 rfl (lv_at hl 0 rfl) ?_
                                                                      refine lv_imul S.1 S.2.1 dL_judges_21 ?_
                                                                      refine lv_iconst (v := 0) S.1 S.2.1 dL_judges_22 (by decide) ?_
                                                                      refine lv_sipush (v := 400) S.1 S.2.1 dL_judges_23 (by decide) ?_
                                                                      refine lv_bipush (v := 60) S.1 S.2.1 dL_judges_26 (by decide) ?_
                                                                      obtain ⟨⟨v36, m35⟩, hc34, h⟩ := d_b h
                                                                      have h := d_p2 h
                                                                      refine dwLj (vx_runSX (As := [.ref (dad g 0), .int 4, .int (10 * 11), .int 0, .int 400, .int 60]) (rest := []) S (kL_act l g hst hc34) (vx_cwSW 6 S.2.2.2.2 gL_judges_L_act rfl rfl rfl ynL_act ⟨(Nat.le_of_ble_eq_true rfl), (Nat.le_of_ble_eq_true rfl)⟩) (dwS hE hP hS hb) rfl rfl hl.1 rfl (lv_room (Nat.le_of_ble_eq_true rfl)) dL_judges_28 ⟨by omega, by omega⟩) hE hS hb hKs hK (fun H hP hS hb hK => ?_)
                                                                      refine lv_iload_n S.1 S.2.1 dL_judges_31 rfl (lv_at hl 0 rfl) ?_
                                                                      refine lv_bipush (v := 12) S.1 S.2.1 dL_judges_32 (by decide) ?_
                                                                      refine lv_icmp_ge (tgt := 42) S.1 S.2.1 dL_judges_34 (by decide) (fun cq => ?_) (fun cq => ?_)
                                                                      · exact absurd cq (by decide)
                                                                      · refine lv_iload_n S.1 S.2.1 dL_judges_37 rfl (lv_at hl 0 rfl) ?_
                                                                        refine lv_i2l S.1 S.2.1 dL_judges_38 rfl ?_
                                                                        refine lv_goto (tgt := 45) S.1 S.2.1 dL_judges_39 (by decide) ?_
                                                                        refine W.lcmp S.1 S.2.1 dL_judges_45 ?_
                                                                        refine lv_if_eq (tgt := 51) S.1 S.2.1 dL_judges_46 (by decide) (fun cq => ?_) (fun cq => ?_)
                                                                        · have h := d_t cq h
                                                                          refine lv_iinc (v := 12) (lv' := [(1, .int 12), (0, .ref (dad g 0))]) S.1 S.2.1 dL_judges_51 hl (k := 0) rfl (by decide) (by decide) rfl (fun ls hl => ?_)
                                                                          refine lv_goto (tgt := 10) S.1 S.2.1 dL_judges_54 (by decide) ?_
                                                                          refine lv_iload_n S.1 S.2.1 dL_judges_10 rfl (lv_at hl 0 rfl) ?_
                                                                          refine lv_bipush (v := 13) S.1 S.2.1 dL_judges_11 (by decide) ?_
                                                                          refine lv_icmp_ge (tgt := 57) S.1 S.2.1 dL_judges_13 (by decide) (fun cq => ?_) (fun cq => ?_)
                                                                          · exact absurd cq (by decide)
                                                                          · refine lv_aload_n S.1 S.2.1 dL_judges_16 rfl (lv_at hl 1 rfl) ?_
                                                                            refine lv_iconst (v := 4) S.1 S.2.1 dL_judges_17 (by decide) ?_
                                                                            refine lv_bipush (v := 10) S.1 S.2.1 dL_judges_18 (by decide) ?_
                                                                            refine lv_iload_n S.1 S.2.1 dL_judges_20 rfl (lv_at hl 0 rfl) ?_
                                                                            refine lv_imul S.1 S.2.1 dL_judges_21 ?_
                                                                            refine lv_iconst (v := 0) S.1 S.2.1 dL_judges_22 (by decide) ?_
                                                                            refine lv_sipush (v := 400) S.1 S.2.1 dL_judges_23 (by decide) ?_
                                                                            refine lv_bipush (v := 60) S.1 S.2.1 dL_judges_26 (by decide) ?_
                                                                            obtain ⟨⟨v39, m38⟩, hc37, h⟩ := d_b h
                                                                            have h := d_p2 h
                                                                            refine dwLj (vx_runSX (As := [.ref (dad g 0), .int 4, .int (10 * 12), .int 0, .int 400, .int 60]) (rest := []) S (kL_act l g hst hc37) (vx_cwSW 6 S.2.2.2.2 gL_judges_L_act rfl rfl rfl ynL_act ⟨(Nat.le_of_ble_eq_true rfl), (Nat.le_of_ble_eq_true rfl)⟩) (dwS hE hP hS hb) rfl rfl hl.1 rfl (lv_room (Nat.le_of_ble_eq_true rfl)) dL_judges_28 ⟨by omega, by omega⟩) hE hS hb hKs hK (fun H hP hS hb hK => ?_)
                                                                            refine lv_iload_n S.1 S.2.1 dL_judges_31 rfl (lv_at hl 0 rfl) ?_
                                                                            refine lv_bipush (v := 12) S.1 S.2.1 dL_judges_32 (by decide) ?_
                                                                            refine lv_icmp_ge (tgt := 42) S.1 S.2.1 dL_judges_34 (by decide) (fun cq => ?_) (fun cq => ?_)
                                                                            · refine lv_ldc2 (v := (-73)) S.1 S.2.1 S.2.2.2.1 (S.2.2.2.2 (.constantLong RL 108 (-73)) (List.mem_of_getElem? (i := 4) rfl)) dL_judges_42 ?_
                                                                              refine W.lcmp S.1 S.2.1 dL_judges_45 ?_
                                                                              refine lv_if_eq (tgt := 51) S.1 S.2.1 dL_judges_46 (by decide) (fun cq => ?_) (fun cq => ?_)
                                                                              · have h := d_t cq h
                                                                                refine lv_iinc (v := 13) (lv' := [(1, .int 13), (0, .ref (dad g 0))]) S.1 S.2.1 dL_judges_51 hl (k := 0) rfl (by decide) (by decide) rfl (fun ls hl => ?_)
                                                                                refine lv_goto (tgt := 10) S.1 S.2.1 dL_judges_54 (by decide) ?_
                                                                                refine lv_iload_n S.1 S.2.1 dL_judges_10 rfl (lv_at hl 0 rfl) ?_
                                                                                refine lv_bipush (v := 13) S.1 S.2.1 dL_judges_11 (by decide) ?_
                                                                                refine lv_icmp_ge (tgt := 57) S.1 S.2.1 dL_judges_13 (by decide) (fun cq => ?_) (fun cq => ?_)
                                                                                · obtain rfl := Option.some.inj h
                                                                                  exact kk H ls _ _ (by omega) (by omega) hP hS hb hK (lv_sub hl [1] rfl)
                                                                                · exact absurd (by decide) cq
                                                                              · have h := d_f cq h
                                                                                cases h
                                                                            · exact absurd (by decide) cq
                                                                        · have h := d_f cq h
                                                                          cases h
                                                                  · have h := d_f cq h
                                                                    cases h
                                                            · have h := d_f cq h
                                                              cases h
                                                      · have h := d_f cq h
                                                        cases h
                                                · have h := d_f cq h
                                                  cases h
                                          · have h := d_f cq h
                                            cases h
                                    · have h := d_f cq h
                                      cases h
                              · have h := d_f cq h
                                cases h
                        · have h := d_f cq h
                          cases h
                  · have h := d_f cq h
                    cases h
            · have h := d_f cq h
              cases h
      · have h := d_f cq h
        cases h
def fL_jdB (m : dM) : Option dM := (fL_act m 0 7 (0 - 0 / 12 * 12) 10 120 (0 - 0 / 2 * 2)).bind (fun q => dP2 q (fun v3 m2 => if (lg_cmp v3 (Int32.toInt64 0)) = 0 then (fL_act m2 0 7 (1 - 1 / 12 * 12) 10 120 (1 - 1 / 2 * 2)).bind (fun q => dP2 q (fun v6 m5 => if (lg_cmp v6 (Int32.toInt64 1)) = 0 then (fL_act m5 0 7 (2 - 2 / 12 * 12) 10 120 (2 - 2 / 2 * 2)).bind (fun q => dP2 q (fun v9 m8 => if (lg_cmp v9 (Int32.toInt64 2)) = 0 then (fL_act m8 0 7 (3 - 3 / 12 * 12) 10 120 (3 - 3 / 2 * 2)).bind (fun q => dP2 q (fun v12 m11 => if (lg_cmp v12 (Int32.toInt64 3)) = 0 then (fL_act m11 0 7 (4 - 4 / 12 * 12) 10 120 (4 - 4 / 2 * 2)).bind (fun q => dP2 q (fun v15 m14 => if (lg_cmp v15 (Int32.toInt64 4)) = 0 then (fL_act m14 0 7 (5 - 5 / 12 * 12) 10 120 (5 - 5 / 2 * 2)).bind (fun q => dP2 q (fun v18 m17 => if (lg_cmp v18 (Int32.toInt64 5)) = 0 then (fL_act m17 0 7 (6 - 6 / 12 * 12) 10 120 (6 - 6 / 2 * 2)).bind (fun q => dP2 q (fun v21 m20 => if (lg_cmp v21 (Int32.toInt64 6)) = 0 then (fL_act m20 0 7 (7 - 7 / 12 * 12) 10 120 (7 - 7 / 2 * 2)).bind (fun q => dP2 q (fun v24 m23 => if (lg_cmp v24 (Int32.toInt64 7)) = 0 then (fL_act m23 0 7 (8 - 8 / 12 * 12) 10 120 (8 - 8 / 2 * 2)).bind (fun q => dP2 q (fun v27 m26 => if (lg_cmp v27 (Int32.toInt64 8)) = 0 then (fL_act m26 0 7 (9 - 9 / 12 * 12) 10 120 (9 - 9 / 2 * 2)).bind (fun q => dP2 q (fun v30 m29 => if (lg_cmp v30 (Int32.toInt64 9)) = 0 then (fL_act m29 0 7 (10 - 10 / 12 * 12) 10 120 (10 - 10 / 2 * 2)).bind (fun q => dP2 q (fun v33 m32 => if (lg_cmp v33 (Int32.toInt64 10)) = 0 then (fL_act m32 0 7 (11 - 11 / 12 * 12) 10 120 (11 - 11 / 2 * 2)).bind (fun q => dP2 q (fun v36 m35 => if (lg_cmp v36 (Int32.toInt64 11)) = 0 then (fL_act m35 0 7 (12 - 12 / 12 * 12) 10 120 (12 - 12 / 2 * 2)).bind (fun q => dP2 q (fun v39 m38 => if (lg_cmp v39 (-73)) = 0 then some m38 else none)) else none)) else none)) else none)) else none)) else none)) else none)) else none)) else none)) else none)) else none)) else none)) else none))
set_option maxHeartbeats 4000000 in
set_option maxRecDepth 100000 in
theorem kL_jdB {p : Program} {l : Launch} {e : Env} {s : State} {mth : MethodId} {below : List Frame} {meth : Method} {c : Code} {g : dG} {Q : State → Prop} {H : Heap} {cells slots : Nat} {ls : Array Slot} {m m9 : dM} {K : Heap → Prop} (hst : l.stackTraces = false) (S : CallFix p mth c cL_judges 2 s (([] : List Value).toArray) wsL_judges RL) (hE : dEw g s) (hKs : ∀ H H1 : Heap, (∀ q, q < g.2.2.2 → H1[q]? = H[q]?) → K H → K H1) (hR : cells + 52 ≤ (headSpec wsL_judges (dDm 12 249 1561 10079)).room.cells ∧ slots + 312 ≤ (headSpec wsL_judges (dDm 12 249 1561 10079)).room.slots) (h : fL_jdB m = some m9) (hP : va_P g.1 vwCl (dws g m) H) (hS : va_S (dAs s) s.heap H []) (hb : g.2.2.2 ≤ H.size) (hK : K H) (hl : lv_has ls 2 [(0, .ref (dad g 0))])
    (kk : ∀ (H : Heap) (ls : Array Slot) (cells2 slots2 : Nat), cells2 ≤ cells + 52 → slots2 ≤ slots + 312 → va_P g.1 vwCl (dws g m9) H → va_S (dAs s) s.heap H [] → g.2.2.2 ≤ H.size → K H → lv_has ls 2 [(0, .ref (dad g 0))] → W p l e (headSpec wsL_judges (dDm 12 249 1561 10079)).room s mth (([] : List Value).toArray) below meth c H [] cells2 slots2 Q (F0 mth 108 ls [])) : W p l e (headSpec wsL_judges (dDm 12 249 1561 10079)).room s mth (([] : List Value).toArray) below meth c H [] cells slots Q (F0 mth 57 ls []) := by
  obtain ⟨hR1, hR2⟩ := hR
  unfold fL_jdB at h
  refine lv_iconst (v := 0) S.1 S.2.1 dL_judges_57 (by decide) ?_
  refine lv_istore_n (lv' := [(1, .int 0), (0, .ref (dad g 0))]) S.1 S.2.1 dL_judges_58 rfl hl (by decide) rfl (fun ls hl => ?_)
  refine lv_iload_n S.1 S.2.1 dL_judges_59 rfl (lv_at hl 0 rfl) ?_
  refine lv_bipush (v := 13) S.1 S.2.1 dL_judges_60 (by decide) ?_
  refine lv_icmp_ge (tgt := 108) S.1 S.2.1 dL_judges_62 (by decide) (fun cq => ?_) (fun cq => ?_)
  · exact absurd cq (by decide)
  · refine lv_aload_n S.1 S.2.1 dL_judges_65 rfl (lv_at hl 1 rfl) ?_
    refine lv_bipush (v := 7) S.1 S.2.1 dL_judges_66 (by decide) ?_
    refine lv_iload_n S.1 S.2.1 dL_judges_68 rfl (lv_at hl 0 rfl) ?_
    refine lv_bipush (v := 12) S.1 S.2.1 dL_judges_69 (by decide) ?_
    refine lv_irem S.1 S.2.1 dL_judges_71 (by decide) ?_
    refine lv_bipush (v := 10) S.1 S.2.1 dL_judges_72 (by decide) ?_
    refine lv_bipush (v := 120) S.1 S.2.1 dL_judges_74 (by decide) ?_
    refine lv_iload_n S.1 S.2.1 dL_judges_76 rfl (lv_at hl 0 rfl) ?_
    refine lv_iconst (v := 2) S.1 S.2.1 dL_judges_77 (by decide) ?_
    refine lv_irem S.1 S.2.1 dL_judges_78 (by decide) ?_
    obtain ⟨⟨v3, m2⟩, hc1, h⟩ := d_b h
    have h := d_p2 h
    refine dwLj (vx_runSX (As := [.ref (dad g 0), .int 7, .int (0 - 0 / 12 * 12), .int 10, .int 120, .int (0 - 0 / 2 * 2)]) (rest := []) S (kL_act l g hst hc1) (vx_cwSW 6 S.2.2.2.2 gL_judges_L_act rfl rfl rfl ynL_act ⟨(Nat.le_of_ble_eq_true rfl), (Nat.le_of_ble_eq_true rfl)⟩) (dwS hE hP hS hb) rfl rfl hl.1 rfl (lv_room (Nat.le_of_ble_eq_true rfl)) dL_judges_79 ⟨by omega, by omega⟩) hE hS hb hKs hK (fun H hP hS hb hK => ?_)
    refine lv_iload_n S.1 S.2.1 dL_judges_82 rfl (lv_at hl 0 rfl) ?_
    refine lv_bipush (v := 12) S.1 S.2.1 dL_judges_83 (by decide) ?_
    refine lv_icmp_ge (tgt := 93) S.1 S.2.1 dL_judges_85 (by decide) (fun cq => ?_) (fun cq => ?_)
    · exact absurd cq (by decide)
    · refine lv_iload_n S.1 S.2.1 dL_judges_88 rfl (lv_at hl 0 rfl) ?_
      refine lv_i2l S.1 S.2.1 dL_judges_89 rfl ?_
      refine lv_goto (tgt := 96) S.1 S.2.1 dL_judges_90 (by decide) ?_
      refine W.lcmp S.1 S.2.1 dL_judges_96 ?_
      refine lv_if_eq (tgt := 102) S.1 S.2.1 dL_judges_97 (by decide) (fun cq => ?_) (fun cq => ?_)
      · have h := d_t cq h
        refine lv_iinc (v := 1) (lv' := [(1, .int 1), (0, .ref (dad g 0))]) S.1 S.2.1 dL_judges_102 hl (k := 0) rfl (by decide) (by decide) rfl (fun ls hl => ?_)
        refine lv_goto (tgt := 59) S.1 S.2.1 dL_judges_105 (by decide) ?_
        refine lv_iload_n S.1 S.2.1 dL_judges_59 rfl (lv_at hl 0 rfl) ?_
        refine lv_bipush (v := 13) S.1 S.2.1 dL_judges_60 (by decide) ?_
        refine lv_icmp_ge (tgt := 108) S.1 S.2.1 dL_judges_62 (by decide) (fun cq => ?_) (fun cq => ?_)
        · exact absurd cq (by decide)
        · refine lv_aload_n S.1 S.2.1 dL_judges_65 rfl (lv_at hl 1 rfl) ?_
          refine lv_bipush (v := 7) S.1 S.2.1 dL_judges_66 (by decide) ?_
          refine lv_iload_n S.1 S.2.1 dL_judges_68 rfl (lv_at hl 0 rfl) ?_
          refine lv_bipush (v := 12) S.1 S.2.1 dL_judges_69 (by decide) ?_
          refine lv_irem S.1 S.2.1 dL_judges_71 (by decide) ?_
          refine lv_bipush (v := 10) S.1 S.2.1 dL_judges_72 (by decide) ?_
          refine lv_bipush (v := 120) S.1 S.2.1 dL_judges_74 (by decide) ?_
          refine lv_iload_n S.1 S.2.1 dL_judges_76 rfl (lv_at hl 0 rfl) ?_
          refine lv_iconst (v := 2) S.1 S.2.1 dL_judges_77 (by decide) ?_
          refine lv_irem S.1 S.2.1 dL_judges_78 (by decide) ?_
          obtain ⟨⟨v6, m5⟩, hc4, h⟩ := d_b h
          have h := d_p2 h
          refine dwLj (vx_runSX (As := [.ref (dad g 0), .int 7, .int (1 - 1 / 12 * 12), .int 10, .int 120, .int (1 - 1 / 2 * 2)]) (rest := []) S (kL_act l g hst hc4) (vx_cwSW 6 S.2.2.2.2 gL_judges_L_act rfl rfl rfl ynL_act ⟨(Nat.le_of_ble_eq_true rfl), (Nat.le_of_ble_eq_true rfl)⟩) (dwS hE hP hS hb) rfl rfl hl.1 rfl (lv_room (Nat.le_of_ble_eq_true rfl)) dL_judges_79 ⟨by omega, by omega⟩) hE hS hb hKs hK (fun H hP hS hb hK => ?_)
          refine lv_iload_n S.1 S.2.1 dL_judges_82 rfl (lv_at hl 0 rfl) ?_
          refine lv_bipush (v := 12) S.1 S.2.1 dL_judges_83 (by decide) ?_
          refine lv_icmp_ge (tgt := 93) S.1 S.2.1 dL_judges_85 (by decide) (fun cq => ?_) (fun cq => ?_)
          · exact absurd cq (by decide)
          · refine lv_iload_n S.1 S.2.1 dL_judges_88 rfl (lv_at hl 0 rfl) ?_
            refine lv_i2l S.1 S.2.1 dL_judges_89 rfl ?_
            refine lv_goto (tgt := 96) S.1 S.2.1 dL_judges_90 (by decide) ?_
            refine W.lcmp S.1 S.2.1 dL_judges_96 ?_
            refine lv_if_eq (tgt := 102) S.1 S.2.1 dL_judges_97 (by decide) (fun cq => ?_) (fun cq => ?_)
            · have h := d_t cq h
              refine lv_iinc (v := 2) (lv' := [(1, .int 2), (0, .ref (dad g 0))]) S.1 S.2.1 dL_judges_102 hl (k := 0) rfl (by decide) (by decide) rfl (fun ls hl => ?_)
              refine lv_goto (tgt := 59) S.1 S.2.1 dL_judges_105 (by decide) ?_
              refine lv_iload_n S.1 S.2.1 dL_judges_59 rfl (lv_at hl 0 rfl) ?_
              refine lv_bipush (v := 13) S.1 S.2.1 dL_judges_60 (by decide) ?_
              refine lv_icmp_ge (tgt := 108) S.1 S.2.1 dL_judges_62 (by decide) (fun cq => ?_) (fun cq => ?_)
              · exact absurd cq (by decide)
              · refine lv_aload_n S.1 S.2.1 dL_judges_65 rfl (lv_at hl 1 rfl) ?_
                refine lv_bipush (v := 7) S.1 S.2.1 dL_judges_66 (by decide) ?_
                refine lv_iload_n S.1 S.2.1 dL_judges_68 rfl (lv_at hl 0 rfl) ?_
                refine lv_bipush (v := 12) S.1 S.2.1 dL_judges_69 (by decide) ?_
                refine lv_irem S.1 S.2.1 dL_judges_71 (by decide) ?_
                refine lv_bipush (v := 10) S.1 S.2.1 dL_judges_72 (by decide) ?_
                refine lv_bipush (v := 120) S.1 S.2.1 dL_judges_74 (by decide) ?_
                refine lv_iload_n S.1 S.2.1 dL_judges_76 rfl (lv_at hl 0 rfl) ?_
                refine lv_iconst (v := 2) S.1 S.2.1 dL_judges_77 (by decide) ?_
                refine lv_irem S.1 S.2.1 dL_judges_78 (by decide) ?_
                obtain ⟨⟨v9, m8⟩, hc7, h⟩ := d_b h
                have h := d_p2 h
                refine dwLj (vx_runSX (As := [.ref (dad g 0), .int 7, .int (2 - 2 / 12 * 12), .int 10, .int 120, .int (2 - 2 / 2 * 2)]) (rest := []) S (kL_act l g hst hc7) (vx_cwSW 6 S.2.2.2.2 gL_judges_L_act rfl rfl rfl ynL_act ⟨(Nat.le_of_ble_eq_true rfl), (Nat.le_of_ble_eq_true rfl)⟩) (dwS hE hP hS hb) rfl rfl hl.1 rfl (lv_room (Nat.le_of_ble_eq_true rfl)) dL_judges_79 ⟨by omega, by omega⟩) hE hS hb hKs hK (fun H hP hS hb hK => ?_)
                refine lv_iload_n S.1 S.2.1 dL_judges_82 rfl (lv_at hl 0 rfl) ?_
                refine lv_bipush (v := 12) S.1 S.2.1 dL_judges_83 (by decide) ?_
                refine lv_icmp_ge (tgt := 93) S.1 S.2.1 dL_judges_85 (by decide) (fun cq => ?_) (fun cq => ?_)
                · exact absurd cq (by decide)
                · refine lv_iload_n S.1 S.2.1 dL_judges_88 rfl (lv_at hl 0 rfl) ?_
                  refine lv_i2l S.1 S.2.1 dL_judges_89 rfl ?_
                  refine lv_goto (tgt := 96) S.1 S.2.1 dL_judges_90 (by decide) ?_
                  refine W.lcmp S.1 S.2.1 dL_judges_96 ?_
                  refine lv_if_eq (tgt := 102) S.1 S.2.1 dL_judges_97 (by decide) (fun cq => ?_) (fun cq => ?_)
                  · have h := d_t cq h
                    refine lv_iinc (v := 3) (lv' := [(1, .int 3), (0, .ref (dad g 0))]) S.1 S.2.1 dL_judges_102 hl (k := 0) rfl (by decide) (by decide) rfl (fun ls hl => ?_)
                    refine lv_goto (tgt := 59) S.1 S.2.1 dL_judges_105 (by decide) ?_
                    refine lv_iload_n S.1 S.2.1 dL_judges_59 rfl (lv_at hl 0 rfl) ?_
                    refine lv_bipush (v := 13) S.1 S.2.1 dL_judges_60 (by decide) ?_
                    refine lv_icmp_ge (tgt := 108) S.1 S.2.1 dL_judges_62 (by decide) (fun cq => ?_) (fun cq => ?_)
                    · exact absurd cq (by decide)
                    · refine lv_aload_n S.1 S.2.1 dL_judges_65 rfl (lv_at hl 1 rfl) ?_
                      refine lv_bipush (v := 7) S.1 S.2.1 dL_judges_66 (by decide) ?_
                      refine lv_iload_n S.1 S.2.1 dL_judges_68 rfl (lv_at hl 0 rfl) ?_
                      refine lv_bipush (v := 12) S.1 S.2.1 dL_judges_69 (by decide) ?_
                      refine lv_irem S.1 S.2.1 dL_judges_71 (by decide) ?_
                      refine lv_bipush (v := 10) S.1 S.2.1 dL_judges_72 (by decide) ?_
                      refine lv_bipush (v := 120) S.1 S.2.1 dL_judges_74 (by decide) ?_
                      refine lv_iload_n S.1 S.2.1 dL_judges_76 rfl (lv_at hl 0 rfl) ?_
                      refine lv_iconst (v := 2) S.1 S.2.1 dL_judges_77 (by decide) ?_
                      refine lv_irem S.1 S.2.1 dL_judges_78 (by decide) ?_
                      obtain ⟨⟨v12, m11⟩, hc10, h⟩ := d_b h
                      have h := d_p2 h
                      refine dwLj (vx_runSX (As := [.ref (dad g 0), .int 7, .int (3 - 3 / 12 * 12), .int 10, .int 120, .int (3 - 3 / 2 * 2)]) (rest := []) S (kL_act l g hst hc10) (vx_cwSW 6 S.2.2.2.2 gL_judges_L_act rfl rfl rfl ynL_act ⟨(Nat.le_of_ble_eq_true rfl), (Nat.le_of_ble_eq_true rfl)⟩) (dwS hE hP hS hb) rfl rfl hl.1 rfl (lv_room (Nat.le_of_ble_eq_true rfl)) dL_judges_79 ⟨by omega, by omega⟩) hE hS hb hKs hK (fun H hP hS hb hK => ?_)
                      refine lv_iload_n S.1 S.2.1 dL_judges_82 rfl (lv_at hl 0 rfl) ?_
                      refine lv_bipush (v := 12) S.1 S.2.1 dL_judges_83 (by decide) ?_
                      refine lv_icmp_ge (tgt := 93) S.1 S.2.1 dL_judges_85 (by decide) (fun cq => ?_) (fun cq => ?_)
                      · exact absurd cq (by decide)
                      · refine lv_iload_n S.1 S.2.1 dL_judges_88 rfl (lv_at hl 0 rfl) ?_
                        refine lv_i2l S.1 S.2.1 dL_judges_89 rfl ?_
                        refine lv_goto (tgt := 96) S.1 S.2.1 dL_judges_90 (by decide) ?_
                        refine W.lcmp S.1 S.2.1 dL_judges_96 ?_
                        refine lv_if_eq (tgt := 102) S.1 S.2.1 dL_judges_97 (by decide) (fun cq => ?_) (fun cq => ?_)
                        · have h := d_t cq h
                          refine lv_iinc (v := 4) (lv' := [(1, .int 4), (0, .ref (dad g 0))]) S.1 S.2.1 dL_judges_102 hl (k := 0) rfl (by decide) (by decide) rfl (fun ls hl => ?_)
                          refine lv_goto (tgt := 59) S.1 S.2.1 dL_judges_105 (by decide) ?_
                          refine lv_iload_n S.1 S.2.1 dL_judges_59 rfl (lv_at hl 0 rfl) ?_
                          refine lv_bipush (v := 13) S.1 S.2.1 dL_judges_60 (by decide) ?_
                          refine lv_icmp_ge (tgt := 108) S.1 S.2.1 dL_judges_62 (by decide) (fun cq => ?_) (fun cq => ?_)
                          · exact absurd cq (by decide)
                          · refine lv_aload_n S.1 S.2.1 dL_judges_65 rfl (lv_at hl 1 rfl) ?_
                            refine lv_bipush (v := 7) S.1 S.2.1 dL_judges_66 (by decide) ?_
                            refine lv_iload_n S.1 S.2.1 dL_judges_68 rfl (lv_at hl 0 rfl) ?_
                            refine lv_bipush (v := 12) S.1 S.2.1 dL_judges_69 (by decide) ?_
                            refine lv_irem S.1 S.2.1 dL_judges_71 (by decide) ?_
                            refine lv_bipush (v := 10) S.1 S.2.1 dL_judges_72 (by decide) ?_
                            refine lv_bipush (v := 120) S.1 S.2.1 dL_judges_74 (by decide) ?_
                            refine lv_iload_n S.1 S.2.1 dL_judges_76 rfl (lv_at hl 0 rfl) ?_
                            refine lv_iconst (v := 2) S.1 S.2.1 dL_judges_77 (by decide) ?_
                            refine lv_irem S.1 S.2.1 dL_judges_78 (by decide) ?_
                            obtain ⟨⟨v15, m14⟩, hc13, h⟩ := d_b h
                            have h := d_p2 h
                            refine dwLj (vx_runSX (As := [.ref (dad g 0), .int 7, .int (4 - 4 / 12 * 12), .int 10, .int 120, .int (4 - 4 / 2 * 2)]) (rest := []) S (kL_act l g hst hc13) (vx_cwSW 6 S.2.2.2.2 gL_judges_L_act rfl rfl rfl ynL_act ⟨(Nat.le_of_ble_eq_true rfl), (Nat.le_of_ble_eq_true rfl)⟩) (dwS hE hP hS hb) rfl rfl hl.1 rfl (lv_room (Nat.le_of_ble_eq_true rfl)) dL_judges_79 ⟨by omega, by omega⟩) hE hS hb hKs hK (fun H hP hS hb hK => ?_)
                            refine lv_iload_n S.1 S.2.1 dL_judges_82 rfl (lv_at hl 0 rfl) ?_
                            refine lv_bipush (v := 12) S.1 S.2.1 dL_judges_83 (by decide) ?_
                            refine lv_icmp_ge (tgt := 93) S.1 S.2.1 dL_judges_85 (by decide) (fun cq => ?_) (fun cq => ?_)
                            · exact absurd cq (by decide)
                            · refine lv_iload_n S.1 S.2.1 dL_judges_88 rfl (lv_at hl 0 rfl) ?_
                              refine lv_i2l S.1 S.2.1 dL_judges_89 rfl ?_
                              refine lv_goto (tgt := 96) S.1 S.2.1 dL_judges_90 (by decide) ?_
                              refine W.lcmp S.1 S.2.1 dL_judges_96 ?_
                              refine lv_if_eq (tgt := 102) S.1 S.2.1 dL_judges_97 (by decide) (fun cq => ?_) (fun cq => ?_)
                              · have h := d_t cq h
                                refine lv_iinc (v := 5) (lv' := [(1, .int 5), (0, .ref (dad g 0))]) S.1 S.2.1 dL_judges_102 hl (k := 0) rfl (by decide) (by decide) rfl (fun ls hl => ?_)
                                refine lv_goto (tgt := 59) S.1 S.2.1 dL_judges_105 (by decide) ?_
                                refine lv_iload_n S.1 S.2.1 dL_judges_59 rfl (lv_at hl 0 rfl) ?_
                                refine lv_bipush (v := 13) S.1 S.2.1 dL_judges_60 (by decide) ?_
                                refine lv_icmp_ge (tgt := 108) S.1 S.2.1 dL_judges_62 (by decide) (fun cq => ?_) (fun cq => ?_)
                                · exact absurd cq (by decide)
                                · refine lv_aload_n S.1 S.2.1 dL_judges_65 rfl (lv_at hl 1 rfl) ?_
                                  refine lv_bipush (v := 7) S.1 S.2.1 dL_judges_66 (by decide) ?_
                                  refine lv_iload_n S.1 S.2.1 dL_judges_68 rfl (lv_at hl 0 rfl) ?_
                                  refine lv_bipush (v := 12) S.1 S.2.1 dL_judges_69 (by decide) ?_
                                  refine lv_irem S.1 S.2.1 dL_judges_71 (by decide) ?_
                                  refine lv_bipush (v := 10) S.1 S.2.1 dL_judges_72 (by decide) ?_
                                  refine lv_bipush (v := 120) S.1 S.2.1 dL_judges_74 (by decide) ?_
                                  refine lv_iload_n S.1 S.2.1 dL_judges_76 rfl (lv_at hl 0 rfl) ?_
                                  refine lv_iconst (v := 2) S.1 S.2.1 dL_judges_77 (by decide) ?_
                                  refine lv_irem S.1 S.2.1 dL_judges_78 (by decide) ?_
                                  obtain ⟨⟨v18, m17⟩, hc16, h⟩ := d_b h
                                  have h := d_p2 h
                                  refine dwLj (vx_runSX (As := [.ref (dad g 0), .int 7, .int (5 - 5 / 12 * 12), .int 10, .int 120, .int (5 - 5 / 2 * 2)]) (rest := []) S (kL_act l g hst hc16) (vx_cwSW 6 S.2.2.2.2 gL_judges_L_act rfl rfl rfl ynL_act ⟨(Nat.le_of_ble_eq_true rfl), (Nat.le_of_ble_eq_true rfl)⟩) (dwS hE hP hS hb) rfl rfl hl.1 rfl (lv_room (Nat.le_of_ble_eq_true rfl)) dL_judges_79 ⟨by omega, by omega⟩) hE hS hb hKs hK (fun H hP hS hb hK => ?_)
                                  refine lv_iload_n S.1 S.2.1 dL_judges_82 rfl (lv_at hl 0 rfl) ?_
                                  refine lv_bipush (v := 12) S.1 S.2.1 dL_judges_83 (by decide) ?_
                                  refine lv_icmp_ge (tgt := 93) S.1 S.2.1 dL_judges_85 (by decide) (fun cq => ?_) (fun cq => ?_)
                                  · exact absurd cq (by decide)
                                  · refine lv_iload_n S.1 S.2.1 dL_judges_88 rfl (lv_at hl 0 rfl) ?_
                                    refine lv_i2l S.1 S.2.1 dL_judges_89 rfl ?_
                                    refine lv_goto (tgt := 96) S.1 S.2.1 dL_judges_90 (by decide) ?_
                                    refine W.lcmp S.1 S.2.1 dL_judges_96 ?_
                                    refine lv_if_eq (tgt := 102) S.1 S.2.1 dL_judges_97 (by decide) (fun cq => ?_) (fun cq => ?_)
                                    · have h := d_t cq h
                                      refine lv_iinc (v := 6) (lv' := [(1, .int 6), (0, .ref (dad g 0))]) S.1 S.2.1 dL_judges_102 hl (k := 0) rfl (by decide) (by decide) rfl (fun ls hl => ?_)
                                      refine lv_goto (tgt := 59) S.1 S.2.1 dL_judges_105 (by decide) ?_
                                      refine lv_iload_n S.1 S.2.1 dL_judges_59 rfl (lv_at hl 0 rfl) ?_
                                      refine lv_bipush (v := 13) S.1 S.2.1 dL_judges_60 (by decide) ?_
                                      refine lv_icmp_ge (tgt := 108) S.1 S.2.1 dL_judges_62 (by decide) (fun cq => ?_) (fun cq => ?_)
                                      · exact absurd cq (by decide)
                                      · refine lv_aload_n S.1 S.2.1 dL_judges_65 rfl (lv_at hl 1 rfl) ?_
                                        refine lv_bipush (v := 7) S.1 S.2.1 dL_judges_66 (by decide) ?_
                                        refine lv_iload_n S.1 S.2.1 dL_judges_68 rfl (lv_at hl 0 rfl) ?_
                                        refine lv_bipush (v := 12) S.1 S.2.1 dL_judges_69 (by decide) ?_
                                        refine lv_irem S.1 S.2.1 dL_judges_71 (by decide) ?_
                                        refine lv_bipush (v := 10) S.1 S.2.1 dL_judges_72 (by decide) ?_
                                        refine lv_bipush (v := 120) S.1 S.2.1 dL_judges_74 (by decide) ?_
                                        refine lv_iload_n S.1 S.2.1 dL_judges_76 rfl (lv_at hl 0 rfl) ?_
                                        refine lv_iconst (v := 2) S.1 S.2.1 dL_judges_77 (by decide) ?_
                                        refine lv_irem S.1 S.2.1 dL_judges_78 (by decide) ?_
                                        obtain ⟨⟨v21, m20⟩, hc19, h⟩ := d_b h
                                        have h := d_p2 h
                                        refine dwLj (vx_runSX (As := [.ref (dad g 0), .int 7, .int (6 - 6 / 12 * 12), .int 10, .int 120, .int (6 - 6 / 2 * 2)]) (rest := []) S (kL_act l g hst hc19) (vx_cwSW 6 S.2.2.2.2 gL_judges_L_act rfl rfl rfl ynL_act ⟨(Nat.le_of_ble_eq_true rfl), (Nat.le_of_ble_eq_true rfl)⟩) (dwS hE hP hS hb) rfl rfl hl.1 rfl (lv_room (Nat.le_of_ble_eq_true rfl)) dL_judges_79 ⟨by omega, by omega⟩) hE hS hb hKs hK (fun H hP hS hb hK => ?_)
                                        refine lv_iload_n S.1 S.2.1 dL_judges_82 rfl (lv_at hl 0 rfl) ?_
                                        refine lv_bipush (v := 12) S.1 S.2.1 dL_judges_83 (by decide) ?_
                                        refine lv_icmp_ge (tgt := 93) S.1 S.2.1 dL_judges_85 (by decide) (fun cq => ?_) (fun cq => ?_)
                                        · exact absurd cq (by decide)
                                        · refine lv_iload_n S.1 S.2.1 dL_judges_88 rfl (lv_at hl 0 rfl) ?_
                                          refine lv_i2l S.1 S.2.1 dL_judges_89 rfl ?_
                                          refine lv_goto (tgt := 96) S.1 S.2.1 dL_judges_90 (by decide) ?_
                                          refine W.lcmp S.1 S.2.1 dL_judges_96 ?_
                                          refine lv_if_eq (tgt := 102) S.1 S.2.1 dL_judges_97 (by decide) (fun cq => ?_) (fun cq => ?_)
                                          · have h := d_t cq h
                                            refine lv_iinc (v := 7) (lv' := [(1, .int 7), (0, .ref (dad g 0))]) S.1 S.2.1 dL_judges_102 hl (k := 0) rfl (by decide) (by decide) rfl (fun ls hl => ?_)
                                            refine lv_goto (tgt := 59) S.1 S.2.1 dL_judges_105 (by decide) ?_
                                            refine lv_iload_n S.1 S.2.1 dL_judges_59 rfl (lv_at hl 0 rfl) ?_
                                            refine lv_bipush (v := 13) S.1 S.2.1 dL_judges_60 (by decide) ?_
                                            refine lv_icmp_ge (tgt := 108) S.1 S.2.1 dL_judges_62 (by decide) (fun cq => ?_) (fun cq => ?_)
                                            · exact absurd cq (by decide)
                                            · refine lv_aload_n S.1 S.2.1 dL_judges_65 rfl (lv_at hl 1 rfl) ?_
                                              refine lv_bipush (v := 7) S.1 S.2.1 dL_judges_66 (by decide) ?_
                                              refine lv_iload_n S.1 S.2.1 dL_judges_68 rfl (lv_at hl 0 rfl) ?_
                                              refine lv_bipush (v := 12) S.1 S.2.1 dL_judges_69 (by decide) ?_
                                              refine lv_irem S.1 S.2.1 dL_judges_71 (by decide) ?_
                                              refine lv_bipush (v := 10) S.1 S.2.1 dL_judges_72 (by decide) ?_
                                              refine lv_bipush (v := 120) S.1 S.2.1 dL_judges_74 (by decide) ?_
                                              refine lv_iload_n S.1 S.2.1 dL_judges_76 rfl (lv_at hl 0 rfl) ?_
                                              refine lv_iconst (v := 2) S.1 S.2.1 dL_judges_77 (by decide) ?_
                                              refine lv_irem S.1 S.2.1 dL_judges_78 (by decide) ?_
                                              obtain ⟨⟨v24, m23⟩, hc22, h⟩ := d_b h
                                              have h := d_p2 h
                                              refine dwLj (vx_runSX (As := [.ref (dad g 0), .int 7, .int (7 - 7 / 12 * 12), .int 10, .int 120, .int (7 - 7 / 2 * 2)]) (rest := []) S (kL_act l g hst hc22) (vx_cwSW 6 S.2.2.2.2 gL_judges_L_act rfl rfl rfl ynL_act ⟨(Nat.le_of_ble_eq_true rfl), (Nat.le_of_ble_eq_true rfl)⟩) (dwS hE hP hS hb) rfl rfl hl.1 rfl (lv_room (Nat.le_of_ble_eq_true rfl)) dL_judges_79 ⟨by omega, by omega⟩) hE hS hb hKs hK (fun H hP hS hb hK => ?_)
                                              refine lv_iload_n S.1 S.2.1 dL_judges_82 rfl (lv_at hl 0 rfl) ?_
                                              refine lv_bipush (v := 12) S.1 S.2.1 dL_judges_83 (by decide) ?_
                                              refine lv_icmp_ge (tgt := 93) S.1 S.2.1 dL_judges_85 (by decide) (fun cq => ?_) (fun cq => ?_)
                                              · exact absurd cq (by decide)
                                              · refine lv_iload_n S.1 S.2.1 dL_judges_88 rfl (lv_at hl 0 rfl) ?_
                                                refine lv_i2l S.1 S.2.1 dL_judges_89 rfl ?_
                                                refine lv_goto (tgt := 96) S.1 S.2.1 dL_judges_90 (by decide) ?_
                                                refine W.lcmp S.1 S.2.1 dL_judges_96 ?_
                                                refine lv_if_eq (tgt := 102) S.1 S.2.1 dL_judges_97 (by decide) (fun cq => ?_) (fun cq => ?_)
                                                · have h := d_t cq h
                                                  refine lv_iinc (v := 8) (lv' := [(1, .int 8), (0, .ref (dad g 0))]) S.1 S.2.1 dL_judges_102 hl (k := 0) rfl (by decide) (by decide) rfl (fun ls hl => ?_)
                                                  refine lv_goto (tgt := 59) S.1 S.2.1 dL_judges_105 (by decide) ?_
                                                  refine lv_iload_n S.1 S.2.1 dL_judges_59 rfl (lv_at hl 0 rfl) ?_
                                                  refine lv_bipush (v := 13) S.1 S.2.1 dL_judges_60 (by decide) ?_
                                                  refine lv_icmp_ge (tgt := 108) S.1 S.2.1 dL_judges_62 (by decide) (fun cq => ?_) (fun cq => ?_)
                                                  · exact absurd cq (by decide)
                                                  · refine lv_aload_n S.1 S.2.1 dL_judges_65 rfl (lv_at hl 1 rfl) ?_
                                                    refine lv_bipush (v := 7) S.1 S.2.1 dL_judges_66 (by decide) ?_
                                                    refine lv_iload_n S.1 S.2.1 dL_judges_68 rfl (lv_at hl 0 rfl) ?_
                                                    refine lv_bipush (v := 12) S.1 S.2.1 dL_judges_69 (by decide) ?_
                                                    refine lv_irem S.1 S.2.1 dL_judges_71 (by decide) ?_
                                                    refine lv_bipush (v := 10) S.1 S.2.1 dL_judges_72 (by decide) ?_
                                                    refine lv_bipush (v := 120) S.1 S.2.1 dL_judges_74 (by decide) ?_
                                                    refine lv_iload_n S.1 S.2.1 dL_judges_76 rfl (lv_at hl 0 rfl) ?_
                                                    refine lv_iconst (v := 2) S.1 S.2.1 dL_judges_77 (by decide) ?_
                                                    refine lv_irem S.1 S.2.1 dL_judges_78 (by decide) ?_
                                                    obtain ⟨⟨v27, m26⟩, hc25, h⟩ := d_b h
                                                    have h := d_p2 h
                                                    refine dwLj (vx_runSX (As := [.ref (dad g 0), .int 7, .int (8 - 8 / 12 * 12), .int 10, .int 120, .int (8 - 8 / 2 * 2)]) (rest := []) S (kL_act l g hst hc25) (vx_cwSW 6 S.2.2.2.2 gL_judges_L_act rfl rfl rfl ynL_act ⟨(Nat.le_of_ble_eq_true rfl), (Nat.le_of_ble_eq_true rfl)⟩) (dwS hE hP hS hb) rfl rfl hl.1 rfl (lv_room (Nat.le_of_ble_eq_true rfl)) dL_judges_79 ⟨by omega, by omega⟩) hE hS hb hKs hK (fun H hP hS hb hK => ?_)
                                                    refine lv_iload_n S.1 S.2.1 dL_judges_82 rfl (lv_at hl 0 rfl) ?_
                                                    refine lv_bipush (v := 12) S.1 S.2.1 dL_judges_83 (by decide) ?_
                                                    refine lv_icmp_ge (tgt := 93) S.1 S.2.1 dL_judges_85 (by decide) (fun cq => ?_) (fun cq => ?_)
                                                    · exact absurd cq (by decide)
                                                    · refine lv_iload_n S.1 S.2.1 dL_judges_88 rfl (lv_at hl 0 rfl) ?_
                                                      refine lv_i2l S.1 S.2.1 dL_judges_89 rfl ?_
                                                      refine lv_goto (tgt := 96) S.1 S.2.1 dL_judges_90 (by decide) ?_
                                                      refine W.lcmp S.1 S.2.1 dL_judges_96 ?_
                                                      refine lv_if_eq (tgt := 102) S.1 S.2.1 dL_judges_97 (by decide) (fun cq => ?_) (fun cq => ?_)
                                                      · have h := d_t cq h
                                                        refine lv_iinc (v := 9) (lv' := [(1, .int 9), (0, .ref (dad g 0))]) S.1 S.2.1 dL_judges_102 hl (k := 0) rfl (by decide) (by decide) rfl (fun ls hl => ?_)
                                                        refine lv_goto (tgt := 59) S.1 S.2.1 dL_judges_105 (by decide) ?_
                                                        refine lv_iload_n S.1 S.2.1 dL_judges_59 rfl (lv_at hl 0 rfl) ?_
                                                        refine lv_bipush (v := 13) S.1 S.2.1 dL_judges_60 (by decide) ?_
                                                        refine lv_icmp_ge (tgt := 108) S.1 S.2.1 dL_judges_62 (by decide) (fun cq => ?_) (fun cq => ?_)
                                                        · exact absurd cq (by decide)
                                                        · refine lv_aload_n S.1 S.2.1 dL_judges_65 rfl (lv_at hl 1 rfl) ?_
                                                          refine lv_bipush (v := 7) S.1 S.2.1 dL_judges_66 (by decide) ?_
                                                          refine lv_iload_n S.1 S.2.1 dL_judges_68 rfl (lv_at hl 0 rfl) ?_
                                                          refine lv_bipush (v := 12) S.1 S.2.1 dL_judges_69 (by decide) ?_
                                                          refine lv_irem S.1 S.2.1 dL_judges_71 (by decide) ?_
                                                          refine lv_bipush (v := 10) S.1 S.2.1 dL_judges_72 (by decide) ?_
                                                          refine lv_bipush (v := 120) S.1 S.2.1 dL_judges_74 (by decide) ?_
                                                          refine lv_iload_n S.1 S.2.1 dL_judges_76 rfl (lv_at hl 0 rfl) ?_
                                                          refine lv_iconst (v := 2) S.1 S.2.1 dL_judges_77 (by decide) ?_
                                                          refine lv_irem S.1 S.2.1 dL_judges_78 (by decide) ?_
                                                          obtain ⟨⟨v30, m29⟩, hc28, h⟩ := d_b h
                                                          have h := d_p2 h
                                                          refine dwLj (vx_runSX (As := [.ref (dad g 0), .int 7, .int (9 - 9 / 12 * 12), .int 10, .int 120, .int (9 - 9 / 2 * 2)]) (rest := []) S (kL_act l g hst hc28) (vx_cwSW 6 S.2.2.2.2 gL_judges_L_act rfl rfl rfl ynL_act ⟨(Nat.le_of_ble_eq_true rfl), (Nat.le_of_ble_eq_true rfl)⟩) (dwS hE hP hS hb) rfl rfl hl.1 rfl (lv_room (Nat.le_of_ble_eq_true rfl)) dL_judges_79 ⟨by omega, by omega⟩) hE hS hb hKs hK (fun H hP hS hb hK => ?_)
                                                          refine lv_iload_n S.1 S.2.1 dL_judges_82 rfl (lv_at hl 0 rfl) ?_
                                                          refine lv_bipush (v := 12) S.1 S.2.1 dL_judges_83 (by decide) ?_
                                                          refine lv_icmp_ge (tgt := 93) S.1 S.2.1 dL_judges_85 (by decide) (fun cq => ?_) (fun cq => ?_)
                                                          · exact absurd cq (by decide)
                                                          · refine lv_iload_n S.1 S.2.1 dL_judges_88 rfl (lv_at hl 0 rfl) ?_
                                                            refine lv_i2l S.1 S.2.1 dL_judges_89 rfl ?_
                                                            refine lv_goto (tgt := 96) S.1 S.2.1 dL_judges_90 (by decide) ?_
                                                            refine W.lcmp S.1 S.2.1 dL_judges_96 ?_
                                                            refine lv_if_eq (tgt := 102) S.1 S.2.1 dL_judges_97 (by decide) (fun cq => ?_) (fun cq => ?_)
                                                            · have h := d_t cq h
                                                              refine lv_iinc (v := 10) (lv' := [(1, .int 10), (0, .ref (dad g 0))]) S.1 S.2.1 dL_judges_102 hl (k := 0) rfl (by decide) (by decide) rfl (fun ls hl => ?_)
                                                              refine lv_goto (tgt := 59) S.1 S.2.1 dL_judges_105 (by decide) ?_
                                                              refine lv_iload_n S.1 S.2.1 dL_judges_59 rfl (lv_at hl 0 rfl) ?_
                                                              refine lv_bipush (v := 13) S.1 S.2.1 dL_judges_60 (by decide) ?_
                                                              refine lv_icmp_ge (tgt := 108) S.1 S.2.1 dL_judges_62 (by decide) (fun cq => ?_) (fun cq => ?_)
                                                              · exact absurd cq (by decide)
                                                              · refine lv_aload_n S.1 S.2.1 dL_judges_65 rfl (lv_at hl 1 rfl) ?_
                                                                refine lv_bipush (v := 7) S.1 S.2.1 dL_judges_66 (by decide) ?_
                                                                refine lv_iload_n S.1 S.2.1 dL_judges_68 rfl (lv_at hl 0 rfl) ?_
                                                                refine lv_bipush (v := 12) S.1 S.2.1 dL_judges_69 (by decide) ?_
                                                                refine lv_irem S.1 S.2.1 dL_judges_71 (by decide) ?_
                                                                refine lv_bipush (v := 10) S.1 S.2.1 dL_judges_72 (by decide) ?_
                                                                refine lv_bipush (v := 120) S.1 S.2.1 dL_judges_74 (by decide) ?_
                                                                refine lv_iload_n S.1 S.2.1 dL_judges_76 rfl (lv_at hl 0 rfl) ?_
                                                                refine lv_iconst (v := 2) S.1 S.2.1 dL_judges_77 (by decide) ?_
                                                                refine lv_irem S.1 S.2.1 dL_judges_78 (by decide) ?_
                                                                obtain ⟨⟨v33, m32⟩, hc31, h⟩ := d_b h
                                                                have h := d_p2 h
                                                                refine dwLj (vx_runSX (As := [.ref (dad g 0), .int 7, .int (10 - 10 / 12 * 12), .int 10, .int 120, .int (10 - 10 / 2 * 2)]) (rest := []) S (kL_act l g hst hc31) (vx_cwSW 6 S.2.2.2.2 gL_judges_L_act rfl rfl rfl ynL_act ⟨(Nat.le_of_ble_eq_true rfl), (Nat.le_of_ble_eq_true rfl)⟩) (dwS hE hP hS hb) rfl rfl hl.1 rfl (lv_room (Nat.le_of_ble_eq_true rfl)) dL_judges_79 ⟨by omega, by omega⟩) hE hS hb hKs hK (fun H hP hS hb hK => ?_)
                                                                refine lv_iload_n S.1 S.2.1 dL_judges_82 rfl (lv_at hl 0 rfl) ?_
                                                                refine lv_bipush (v := 12) S.1 S.2.1 dL_judges_83 (by decide) ?_
                                                                refine lv_icmp_ge (tgt := 93) S.1 S.2.1 dL_judges_85 (by decide) (fun cq => ?_) (fun cq => ?_)
                                                                · exact absurd cq (by decide)
                                                                · refine lv_iload_n S.1 S.2.1 dL_judges_88 rfl (lv_at hl 0 rfl) ?_
                                                                  refine lv_i2l S.1 S.2.1 dL_judges_89 rfl ?_
                                                                  refine lv_goto (tgt := 96) S.1 S.2.1 dL_judges_90 (by decide) ?_
                                                                  refine W.lcmp S.1 S.2.1 dL_judges_96 ?_
                                                                  refine lv_if_eq (tgt := 102) S.1 S.2.1 dL_judges_97 (by decide) (fun cq => ?_) (fun cq => ?_)
                                                                  · have h := d_t cq h
                                                                    refine lv_iinc (v := 11) (lv' := [(1, .int 11), (0, .ref (dad g 0))]) S.1 S.2.1 dL_judges_102 hl (k := 0) rfl (by decide) (by decide) rfl (fun ls hl => ?_)
                                                                    refine lv_goto (tgt := 59) S.1 S.2.1 dL_judges_105 (by decide) ?_
                                                                    refine lv_iload_n S.1 S.2.1 dL_judges_59 rfl (lv_at hl 0 rfl) ?_
                                                                    refine lv_bipush (v := 13) S.1 S.2.1 dL_judges_60 (by decide) ?_
                                                                    refine lv_icmp_ge (tgt := 108) S.1 S.2.1 dL_judges_62 (by decide) (fun cq => ?_) (fun cq => ?_)
                                                                    · exact absurd cq (by decide)
                                                                    · refine lv_aload_n S.1 S.2.1 dL_judges_65 rfl (lv_at hl 1 rfl) ?_
                                                                      refine lv_bipush (v := 7) S.1 S.2.1 dL_judges_66 (by decide) ?_
                                                                      refine lv_iload_n S.1 S.2.1 dL_judges_68 rfl (lv_at hl 0 rfl) ?_
                                                                      refine lv_bipush (v := 12) S.1 S.2.1 dL_judges_69 (by decide) ?_
                                                                      refine lv_irem S.1 S.2.1 dL_judges_71 (by decide) ?_
                                                                      refine lv_bipush (v := 10) S.1 S.2.1 dL_judges_72 (by decide) ?_
                                                                      refine lv_bipush (v := 120) S.1 S.2.1 dL_judges_74 (by decide) ?_
                                                                      refine lv_iload_n S.1 S.2.1 dL_judges_76 rfl (lv_at hl 0 rfl) ?_
                                                                      refine lv_iconst (v := 2) S.1 S.2.1 dL_judges_77 (by decide) ?_
                                                                      refine lv_irem S.1 S.2.1 dL_judges_78 (by decide) ?_
                                                                      obtain ⟨⟨v36, m35⟩, hc34, h⟩ := d_b h
                                                                      have h := d_p2 h
                                                                      refine dwLj (vx_runSX (As := [.ref (dad g 0), .int 7, .int (11 - 11 / 12 * 12), .int 10, .int 120, .int (11 - 11 / 2 * 2)]) (rest := []) S (kL_act l g hst hc34) (vx_cwSW 6 S.2.2.2.2 gL_judges_L_act rfl rfl rfl ynL_act ⟨(Nat.le_of_ble_eq_true rfl), (Nat.le_of_ble_eq_true rfl)⟩) (dwS hE hP hS hb) rfl rfl hl.1 rfl (lv_room (Nat.le_of_ble_eq_true rfl)) dL_judges_79 ⟨by omega, by omega⟩) hE hS hb hKs hK (fun H hP hS hb hK => ?_)
                                                                      refine lv_iload_n S.1 S.2.1 dL_judges_82 rfl (lv_at hl 0 rfl) ?_
                                                                      refine lv_bipush (v := 12) S.1 S.2.1 dL_judges_83 (by decide) ?_
                                                                      refine lv_icmp_ge (tgt := 93) S.1 S.2.1 dL_judges_85 (by decide) (fun cq => ?_) (fun cq => ?_)
                                                                      · exact absurd cq (by decide)
                                                                      · refine lv_iload_n S.1 S.2.1 dL_judges_88 rfl (lv_at hl 0 rfl) ?_
                                                                        refine lv_i2l S.1 S.2.1 dL_judges_89 rfl ?_
                                                                        refine lv_goto (tgt := 96) S.1 S.2.1 dL_judges_90 (by decide) ?_
                                                                        refine W.lcmp S.1 S.2.1 dL_judges_96 ?_
                                                                        refine lv_if_eq (tgt := 102) S.1 S.2.1 dL_judges_97 (by decide) (fun cq => ?_) (fun cq => ?_)
                                                                        · have h := d_t cq h
                                                                          refine lv_iinc (v := 12) (lv' := [(1, .int 12), (0, .ref (dad g 0))]) S.1 S.2.1 dL_judges_102 hl (k := 0) rfl (by decide) (by decide) rfl (fun ls hl => ?_)
                                                                          refine lv_goto (tgt := 59) S.1 S.2.1 dL_judges_105 (by decide) ?_
                                                                          refine lv_iload_n S.1 S.2.1 dL_judges_59 rfl (lv_at hl 0 rfl) ?_
                                                                          refine lv_bipush (v := 13) S.1 S.2.1 dL_judges_60 (by decide) ?_
                                                                          refine lv_icmp_ge (tgt := 108) S.1 S.2.1 dL_judges_62 (by decide) (fun cq => ?_) (fun cq => ?_)
                                                                          · exact absurd cq (by decide)
                                                                          · refine lv_aload_n S.1 S.2.1 dL_judges_65 rfl (lv_at hl 1 rfl) ?_
                                                                            refine lv_bipush (v := 7) S.1 S.2.1 dL_judges_66 (by decide) ?_
                                                                            refine lv_iload_n S.1 S.2.1 dL_judges_68 rfl (lv_at hl 0 rfl) ?_
                                                                            refine lv_bipush (v := 12) S.1 S.2.1 dL_judges_69 (by decide) ?_
                                                                            refine lv_irem S.1 S.2.1 dL_judges_71 (by decide) ?_
                                                                            refine lv_bipush (v := 10) S.1 S.2.1 dL_judges_72 (by decide) ?_
                                                                            refine lv_bipush (v := 120) S.1 S.2.1 dL_judges_74 (by decide) ?_
                                                                            refine lv_iload_n S.1 S.2.1 dL_judges_76 rfl (lv_at hl 0 rfl) ?_
                                                                            refine lv_iconst (v := 2) S.1 S.2.1 dL_judges_77 (by decide) ?_
                                                                            refine lv_irem S.1 S.2.1 dL_judges_78 (by decide) ?_
                                                                            obtain ⟨⟨v39, m38⟩, hc37, h⟩ := d_b h
                                                                            have h := d_p2 h
                                                                            refine dwLj (vx_runSX (As := [.ref (dad g 0), .int 7, .int (12 - 12 / 12 * 12), .int 10, .int 120, .int (12 - 12 / 2 * 2)]) (rest := []) S (kL_act l g hst hc37) (vx_cwSW 6 S.2.2.2.2 gL_judges_L_act rfl rfl rfl ynL_act ⟨(Nat.le_of_ble_eq_true rfl), (Nat.le_of_ble_eq_true rfl)⟩) (dwS hE hP hS hb) rfl rfl hl.1 rfl (lv_room (Nat.le_of_ble_eq_true rfl)) dL_judges_79 ⟨by omega, by omega⟩) hE hS hb hKs hK (fun H hP hS hb hK => ?_)
                                                                            refine lv_iload_n S.1 S.2.1 dL_judges_82 rfl (lv_at hl 0 rfl) ?_
                                                                            refine lv_bipush (v := 12) S.1 S.2.1 dL_judges_83 (by decide) ?_
                                                                            refine lv_icmp_ge (tgt := 93) S.1 S.2.1 dL_judges_85 (by decide) (fun cq => ?_) (fun cq => ?_)
                                                                            · refine lv_ldc2 (v := (-73)) S.1 S.2.1 S.2.2.2.1 (S.2.2.2.2 (.constantLong RL 108 (-73)) (List.mem_of_getElem? (i := 4) rfl)) dL_judges_93 ?_
                                                                              refine W.lcmp S.1 S.2.1 dL_judges_96 ?_
                                                                              refine lv_if_eq (tgt := 102) S.1 S.2.1 dL_judges_97 (by decide) (fun cq => ?_) (fun cq => ?_)
                                                                              · have h := d_t cq h
                                                                                refine lv_iinc (v := 13) (lv' := [(1, .int 13), (0, .ref (dad g 0))]) S.1 S.2.1 dL_judges_102 hl (k := 0) rfl (by decide) (by decide) rfl (fun ls hl => ?_)
                                                                                refine lv_goto (tgt := 59) S.1 S.2.1 dL_judges_105 (by decide) ?_
                                                                                refine lv_iload_n S.1 S.2.1 dL_judges_59 rfl (lv_at hl 0 rfl) ?_
                                                                                refine lv_bipush (v := 13) S.1 S.2.1 dL_judges_60 (by decide) ?_
                                                                                refine lv_icmp_ge (tgt := 108) S.1 S.2.1 dL_judges_62 (by decide) (fun cq => ?_) (fun cq => ?_)
                                                                                · obtain rfl := Option.some.inj h
                                                                                  exact kk H ls _ _ (by omega) (by omega) hP hS hb hK (lv_sub hl [1] rfl)
                                                                                · exact absurd (by decide) cq
                                                                              · have h := d_f cq h
                                                                                cases h
                                                                            · exact absurd (by decide) cq
                                                                        · have h := d_f cq h
                                                                          cases h
                                                                  · have h := d_f cq h
                                                                    cases h
                                                            · have h := d_f cq h
                                                              cases h
                                                      · have h := d_f cq h
                                                        cases h
                                                · have h := d_f cq h
                                                  cases h
                                          · have h := d_f cq h
                                            cases h
                                    · have h := d_f cq h
                                      cases h
                              · have h := d_f cq h
                                cases h
                        · have h := d_f cq h
                          cases h
                  · have h := d_f cq h
                    cases h
            · have h := d_f cq h
              cases h
      · have h := d_f cq h
        cases h
def fL_judges108 (m : dM) : Option dM := (fX11_lasts m 0).bind (fun v3 => if v3 = 600 then (fX11_judge m 0 0 0 600).bind (fun q => dS q (fun _ => none) (fun q => dP2 q (fun v6 m5 => if v6 = 200 then (fL_act m5 0 16 650 9999 0 0).bind (fun q => dP2 q (fun v10 m9 => if (lg_cmp v10 1) = 0 then (fX11_judge m9 0 0 1 600).bind (fun q => dS q (fun _ => none) (fun q => dP2 q (fun v13 m12 => if v13 = 398 then (fX11_judge m12 0 1 1 600).bind (fun q => dS q (fun _ => none) (fun q => dP2 q (fun v17 m16 => if v17 = 200 then (fX11_judge m16 0 1 0 600).bind (fun q => dS q (fun _ => none) (fun q => dP2 q (fun v21 m20 => if v21 = 400 then (fX11_ranked m20 0 0).bind (fun q => dS q (fun _ => none) (fun q => dP2 q (fun v25 m24 => if v25 = 1 then (fX11_ranked m24 0 1).bind (fun q => dS q (fun _ => none) (fun q => dP2 q (fun v29 m28 => if v29 = 0 then (fX11_ranked m28 0 2).bind (fun q => dS q (fun _ => none) (fun q => dP2 q (fun v33 m32 => if v33 = 2 then some m32 else none))) else none))) else none))) else none))) else none))) else none))) else none)) else none))) else none)
set_option maxHeartbeats 4000000 in
set_option maxRecDepth 100000 in
theorem kL_judges108 {p : Program} {l : Launch} {e : Env} {s : State} {mth : MethodId} {below : List Frame} {meth : Method} {c : Code} {g : dG} {Q : State → Prop} {H : Heap} {cells slots : Nat} {ls : Array Slot} {m m9 : dM} {K : Heap → Prop} (hst : l.stackTraces = false) (S : CallFix p mth c cL_judges 2 s (([] : List Value).toArray) wsL_judges RL) (hE : dEw g s) (hKs : ∀ H H1 : Heap, (∀ q, q < g.2.2.2 → H1[q]? = H[q]?) → K H → K H1) (hR : cells + 19 ≤ (headSpec wsL_judges (dDm 12 249 1561 10079)).room.cells ∧ slots + 114 ≤ (headSpec wsL_judges (dDm 12 249 1561 10079)).room.slots) (h : fL_judges108 m = some m9) (hP : va_P g.1 vwCl (dws g m) H) (hS : va_S (dAs s) s.heap H []) (hb : g.2.2.2 ≤ H.size) (hK : K H) (hl : lv_has ls 2 [(0, .ref (dad g 0))])
    (kk : ∀ (H : Heap) (ls : Array Slot) (cells2 slots2 : Nat), cells2 ≤ cells + 19 → slots2 ≤ slots + 114 → va_P g.1 vwCl (dws g m9) H → va_S (dAs s) s.heap H [] → g.2.2.2 ≤ H.size → K H → lv_has ls 2 [(0, .ref (dad g 0))] → W p l e (headSpec wsL_judges (dDm 12 249 1561 10079)).room s mth (([] : List Value).toArray) below meth c H [] cells2 slots2 Q (F0 mth 223 ls [])) : W p l e (headSpec wsL_judges (dDm 12 249 1561 10079)).room s mth (([] : List Value).toArray) below meth c H [] cells slots Q (F0 mth 108 ls []) := by
  obtain ⟨hR1, hR2⟩ := hR
  unfold fL_judges108 at h
  refine lv_aload_n S.1 S.2.1 dL_judges_108 rfl (lv_at hl 0 rfl) ?_
  obtain ⟨v3, hc1, h⟩ := d_b h
  refine dwi (va_runV (As := []) (rest := []) S (kX11_lasts l g hc1) (cwV 0 S.2.2.2.2 gL_judges_X11_lasts rfl rfl rfl ynX11_lasts ⟨(Nat.le_of_ble_eq_true rfl), (Nat.le_of_ble_eq_true rfl)⟩) (dwV hE hP hS hb (ci := 11) rfl (dat12 dk_0)) rfl rfl hl.1 rfl (lv_room (Nat.le_of_ble_eq_true rfl)) dL_judges_109 ⟨by omega, by omega⟩) hE hS hb hKs hK (fun H hP hS hb hK => ?_)
  refine lv_sipush (v := 600) S.1 S.2.1 dL_judges_112 (by decide) ?_
  refine lv_icmp_ne (tgt := 422) S.1 S.2.1 dL_judges_115 (by decide) (fun cq => ?_) (fun cq => ?_)
  · have h := d_f cq h
    cases h
  · have h := d_t cq h
    refine lv_aload_n S.1 S.2.1 dL_judges_118 rfl (lv_at hl 0 rfl) ?_
    refine lv_iconst (v := 0) S.1 S.2.1 dL_judges_119 (by decide) ?_
    refine lv_iconst (v := 0) S.1 S.2.1 dL_judges_120 (by decide) ?_
    refine lv_sipush (v := 600) S.1 S.2.1 dL_judges_121 (by decide) ?_
    obtain ⟨q7, hc4, h⟩ := d_b h
    rcases q7 with q7 | q7
    · have h := d_s1 h
      cases h
    obtain ⟨v6, m5⟩ := q7
    have h := d_s2 h
    have h := d_p2 h
    refine dwxi (vx_runV (As := [.int 0, .int 0, .int 600]) (rest := []) S (kX11_judge l g hst hc4) (cwV 3 S.2.2.2.2 gL_judges_X11_judge rfl rfl rfl ynX11_judge ⟨(Nat.le_of_ble_eq_true rfl), (Nat.le_of_ble_eq_true rfl)⟩) (dwV hE hP hS hb (ci := 11) rfl (dat12 dk_0)) rfl rfl hl.1 rfl (lv_room (Nat.le_of_ble_eq_true rfl)) dL_judges_124 ⟨by omega, by omega⟩) rfl hE hS hb hKs hK (fun H hP hS hb hK => ?_)
    refine lv_sipush (v := 200) S.1 S.2.1 dL_judges_127 (by decide) ?_
    refine lv_icmp_ne (tgt := 422) S.1 S.2.1 dL_judges_130 (by decide) (fun cq => ?_) (fun cq => ?_)
    · have h := d_f cq h
      cases h
    · have h := d_t cq h
      refine lv_aload_n S.1 S.2.1 dL_judges_133 rfl (lv_at hl 0 rfl) ?_
      refine lv_bipush (v := 16) S.1 S.2.1 dL_judges_134 (by decide) ?_
      refine lv_sipush (v := 650) S.1 S.2.1 dL_judges_136 (by decide) ?_
      refine lv_sipush (v := 9999) S.1 S.2.1 dL_judges_139 (by decide) ?_
      refine lv_iconst (v := 0) S.1 S.2.1 dL_judges_142 (by decide) ?_
      refine lv_iconst (v := 0) S.1 S.2.1 dL_judges_143 (by decide) ?_
      obtain ⟨⟨v10, m9⟩, hc8, h⟩ := d_b h
      have h := d_p2 h
      refine dwLj (vx_runSX (As := [.ref (dad g 0), .int 16, .int 650, .int 9999, .int 0, .int 0]) (rest := []) S (kL_act l g hst hc8) (vx_cwSW 6 S.2.2.2.2 gL_judges_L_act rfl rfl rfl ynL_act ⟨(Nat.le_of_ble_eq_true rfl), (Nat.le_of_ble_eq_true rfl)⟩) (dwS hE hP hS hb) rfl rfl hl.1 rfl (lv_room (Nat.le_of_ble_eq_true rfl)) dL_judges_144 ⟨by omega, by omega⟩) hE hS hb hKs hK (fun H hP hS hb hK => ?_)
      refine lv_lconst (v := 1) S.1 S.2.1 dL_judges_147 (by decide) ?_
      refine W.lcmp S.1 S.2.1 dL_judges_148 ?_
      refine lv_if_ne (tgt := 422) S.1 S.2.1 dL_judges_149 (by decide) (fun cq => ?_) (fun cq => ?_)
      · have h := d_f cq h
        cases h
      · have h := d_t cq h
        refine lv_aload_n S.1 S.2.1 dL_judges_152 rfl (lv_at hl 0 rfl) ?_
        refine lv_iconst (v := 0) S.1 S.2.1 dL_judges_153 (by decide) ?_
        refine lv_iconst (v := 1) S.1 S.2.1 dL_judges_154 (by decide) ?_
        refine lv_sipush (v := 600) S.1 S.2.1 dL_judges_155 (by decide) ?_
        obtain ⟨q14, hc11, h⟩ := d_b h
        rcases q14 with q14 | q14
        · have h := d_s1 h
          cases h
        obtain ⟨v13, m12⟩ := q14
        have h := d_s2 h
        have h := d_p2 h
        refine dwxi (vx_runV (As := [.int 0, .int 1, .int 600]) (rest := []) S (kX11_judge l g hst hc11) (cwV 3 S.2.2.2.2 gL_judges_X11_judge rfl rfl rfl ynX11_judge ⟨(Nat.le_of_ble_eq_true rfl), (Nat.le_of_ble_eq_true rfl)⟩) (dwV hE hP hS hb (ci := 11) rfl (dat12 dk_0)) rfl rfl hl.1 rfl (lv_room (Nat.le_of_ble_eq_true rfl)) dL_judges_158 ⟨by omega, by omega⟩) rfl hE hS hb hKs hK (fun H hP hS hb hK => ?_)
        refine lv_sipush (v := 398) S.1 S.2.1 dL_judges_161 (by decide) ?_
        refine lv_icmp_ne (tgt := 422) S.1 S.2.1 dL_judges_164 (by decide) (fun cq => ?_) (fun cq => ?_)
        · have h := d_f cq h
          cases h
        · have h := d_t cq h
          refine lv_aload_n S.1 S.2.1 dL_judges_167 rfl (lv_at hl 0 rfl) ?_
          refine lv_iconst (v := 1) S.1 S.2.1 dL_judges_168 (by decide) ?_
          refine lv_iconst (v := 1) S.1 S.2.1 dL_judges_169 (by decide) ?_
          refine lv_sipush (v := 600) S.1 S.2.1 dL_judges_170 (by decide) ?_
          obtain ⟨q18, hc15, h⟩ := d_b h
          rcases q18 with q18 | q18
          · have h := d_s1 h
            cases h
          obtain ⟨v17, m16⟩ := q18
          have h := d_s2 h
          have h := d_p2 h
          refine dwxi (vx_runV (As := [.int 1, .int 1, .int 600]) (rest := []) S (kX11_judge l g hst hc15) (cwV 3 S.2.2.2.2 gL_judges_X11_judge rfl rfl rfl ynX11_judge ⟨(Nat.le_of_ble_eq_true rfl), (Nat.le_of_ble_eq_true rfl)⟩) (dwV hE hP hS hb (ci := 11) rfl (dat12 dk_0)) rfl rfl hl.1 rfl (lv_room (Nat.le_of_ble_eq_true rfl)) dL_judges_173 ⟨by omega, by omega⟩) rfl hE hS hb hKs hK (fun H hP hS hb hK => ?_)
          refine lv_sipush (v := 200) S.1 S.2.1 dL_judges_176 (by decide) ?_
          refine lv_icmp_ne (tgt := 422) S.1 S.2.1 dL_judges_179 (by decide) (fun cq => ?_) (fun cq => ?_)
          · have h := d_f cq h
            cases h
          · have h := d_t cq h
            refine lv_aload_n S.1 S.2.1 dL_judges_182 rfl (lv_at hl 0 rfl) ?_
            refine lv_iconst (v := 1) S.1 S.2.1 dL_judges_183 (by decide) ?_
            refine lv_iconst (v := 0) S.1 S.2.1 dL_judges_184 (by decide) ?_
            refine lv_sipush (v := 600) S.1 S.2.1 dL_judges_185 (by decide) ?_
            obtain ⟨q22, hc19, h⟩ := d_b h
            rcases q22 with q22 | q22
            · have h := d_s1 h
              cases h
            obtain ⟨v21, m20⟩ := q22
            have h := d_s2 h
            have h := d_p2 h
            refine dwxi (vx_runV (As := [.int 1, .int 0, .int 600]) (rest := []) S (kX11_judge l g hst hc19) (cwV 3 S.2.2.2.2 gL_judges_X11_judge rfl rfl rfl ynX11_judge ⟨(Nat.le_of_ble_eq_true rfl), (Nat.le_of_ble_eq_true rfl)⟩) (dwV hE hP hS hb (ci := 11) rfl (dat12 dk_0)) rfl rfl hl.1 rfl (lv_room (Nat.le_of_ble_eq_true rfl)) dL_judges_188 ⟨by omega, by omega⟩) rfl hE hS hb hKs hK (fun H hP hS hb hK => ?_)
            refine lv_sipush (v := 400) S.1 S.2.1 dL_judges_191 (by decide) ?_
            refine lv_icmp_ne (tgt := 422) S.1 S.2.1 dL_judges_194 (by decide) (fun cq => ?_) (fun cq => ?_)
            · have h := d_f cq h
              cases h
            · have h := d_t cq h
              refine lv_aload_n S.1 S.2.1 dL_judges_197 rfl (lv_at hl 0 rfl) ?_
              refine lv_iconst (v := 0) S.1 S.2.1 dL_judges_198 (by decide) ?_
              obtain ⟨q26, hc23, h⟩ := d_b h
              rcases q26 with q26 | q26
              · have h := d_s1 h
                cases h
              obtain ⟨v25, m24⟩ := q26
              have h := d_s2 h
              have h := d_p2 h
              refine dwxi (vx_runV (As := [.int 0]) (rest := []) S (kX11_ranked l g hst hc23) (cwV 1 S.2.2.2.2 gL_judges_X11_ranked rfl rfl rfl ynX11_ranked ⟨(Nat.le_of_ble_eq_true rfl), (Nat.le_of_ble_eq_true rfl)⟩) (dwV hE hP hS hb (ci := 11) rfl (dat12 dk_0)) rfl rfl hl.1 rfl (lv_room (Nat.le_of_ble_eq_true rfl)) dL_judges_199 ⟨by omega, by omega⟩) rfl hE hS hb hKs hK (fun H hP hS hb hK => ?_)
              refine lv_iconst (v := 1) S.1 S.2.1 dL_judges_202 (by decide) ?_
              refine lv_icmp_ne (tgt := 422) S.1 S.2.1 dL_judges_203 (by decide) (fun cq => ?_) (fun cq => ?_)
              · have h := d_f cq h
                cases h
              · have h := d_t cq h
                refine lv_aload_n S.1 S.2.1 dL_judges_206 rfl (lv_at hl 0 rfl) ?_
                refine lv_iconst (v := 1) S.1 S.2.1 dL_judges_207 (by decide) ?_
                obtain ⟨q30, hc27, h⟩ := d_b h
                rcases q30 with q30 | q30
                · have h := d_s1 h
                  cases h
                obtain ⟨v29, m28⟩ := q30
                have h := d_s2 h
                have h := d_p2 h
                refine dwxi (vx_runV (As := [.int 1]) (rest := []) S (kX11_ranked l g hst hc27) (cwV 1 S.2.2.2.2 gL_judges_X11_ranked rfl rfl rfl ynX11_ranked ⟨(Nat.le_of_ble_eq_true rfl), (Nat.le_of_ble_eq_true rfl)⟩) (dwV hE hP hS hb (ci := 11) rfl (dat12 dk_0)) rfl rfl hl.1 rfl (lv_room (Nat.le_of_ble_eq_true rfl)) dL_judges_208 ⟨by omega, by omega⟩) rfl hE hS hb hKs hK (fun H hP hS hb hK => ?_)
                refine lv_if_ne (tgt := 422) S.1 S.2.1 dL_judges_211 (by decide) (fun cq => ?_) (fun cq => ?_)
                · have h := d_f cq h
                  cases h
                · have h := d_t cq h
                  refine lv_aload_n S.1 S.2.1 dL_judges_214 rfl (lv_at hl 0 rfl) ?_
                  refine lv_iconst (v := 2) S.1 S.2.1 dL_judges_215 (by decide) ?_
                  obtain ⟨q34, hc31, h⟩ := d_b h
                  rcases q34 with q34 | q34
                  · have h := d_s1 h
                    cases h
                  obtain ⟨v33, m32⟩ := q34
                  have h := d_s2 h
                  have h := d_p2 h
                  refine dwxi (vx_runV (As := [.int 2]) (rest := []) S (kX11_ranked l g hst hc31) (cwV 1 S.2.2.2.2 gL_judges_X11_ranked rfl rfl rfl ynX11_ranked ⟨(Nat.le_of_ble_eq_true rfl), (Nat.le_of_ble_eq_true rfl)⟩) (dwV hE hP hS hb (ci := 11) rfl (dat12 dk_0)) rfl rfl hl.1 rfl (lv_room (Nat.le_of_ble_eq_true rfl)) dL_judges_216 ⟨by omega, by omega⟩) rfl hE hS hb hKs hK (fun H hP hS hb hK => ?_)
                  refine lv_iconst (v := 2) S.1 S.2.1 dL_judges_219 (by decide) ?_
                  refine lv_icmp_ne (tgt := 422) S.1 S.2.1 dL_judges_220 (by decide) (fun cq => ?_) (fun cq => ?_)
                  · have h := d_f cq h
                    cases h
                  · have h := d_t cq h
                    obtain rfl := Option.some.inj h
                    exact kk H ls _ _ (by omega) (by omega) hP hS hb hK (lv_sub hl [0] rfl)
def fL_judges223 (m : dM) : Option dM := (fX11_ranked m 0 5).bind (fun q => dS q (fun _ => none) (fun q => dP2 q (fun v3 m2 => if v3 = 5 then (fL_act m2 0 16 0 599 0 0).bind (fun q => dP2 q (fun v7 m6 => if (lg_cmp v7 1) = 0 then (fX11_judge m6 0 0 2 5).bind (fun q => dS q (fun _ => none) (fun q => dP2 q (fun v10 m9 => if v10 = 399 then (fX11_judge m9 0 0 3 2).bind (fun q => dS q (fun _ => none) (fun q => dP2 q (fun v14 m13 => if v14 = 400 then (fX11_ranked m13 0 0).bind (fun q => dS q (fun _ => none) (fun q => dP2 q (fun v18 m17 => if v18 = 0 then (fX11_penalty m17 0 0 1).bind (fun q => dS q (fun _ => none) (fun q => dP2 q (fun v22 m21 => if v22 = 399 then (fX11_ranked m21 0 0).bind (fun q => dS q (fun _ => none) (fun q => dP2 q (fun v26 m25 => if v26 = 1 then (fX11_penalty m25 0 1 1000).bind (fun q => dS q (fun _ => none) (fun q => dP2 q (fun v30 m29 => if v30 = 0 then (fX11_ranked m29 0 5).bind (fun q => dS q (fun _ => none) (fun q => dP2 q (fun v34 m33 => if v34 = 5 then some m33 else none))) else none))) else none))) else none))) else none))) else none))) else none))) else none)) else none)))
set_option maxHeartbeats 4000000 in
set_option maxRecDepth 100000 in
theorem kL_judges223 {p : Program} {l : Launch} {e : Env} {s : State} {mth : MethodId} {below : List Frame} {meth : Method} {c : Code} {g : dG} {Q : State → Prop} {H : Heap} {cells slots : Nat} {ls : Array Slot} {m m9 : dM} {K : Heap → Prop} (hst : l.stackTraces = false) (S : CallFix p mth c cL_judges 2 s (([] : List Value).toArray) wsL_judges RL) (hE : dEw g s) (hKs : ∀ H H1 : Heap, (∀ q, q < g.2.2.2 → H1[q]? = H[q]?) → K H → K H1) (hR : cells + 18 ≤ (headSpec wsL_judges (dDm 12 249 1561 10079)).room.cells ∧ slots + 108 ≤ (headSpec wsL_judges (dDm 12 249 1561 10079)).room.slots) (h : fL_judges223 m = some m9) (hP : va_P g.1 vwCl (dws g m) H) (hS : va_S (dAs s) s.heap H []) (hb : g.2.2.2 ≤ H.size) (hK : K H) (hl : lv_has ls 2 [(0, .ref (dad g 0))])
    (kk : ∀ (H : Heap) (ls : Array Slot) (cells2 slots2 : Nat), cells2 ≤ cells + 18 → slots2 ≤ slots + 108 → va_P g.1 vwCl (dws g m9) H → va_S (dAs s) s.heap H [] → g.2.2.2 ≤ H.size → K H → lv_has ls 2 [(0, .ref (dad g 0))] → W p l e (headSpec wsL_judges (dDm 12 249 1561 10079)).room s mth (([] : List Value).toArray) below meth c H [] cells2 slots2 Q (F0 mth 324 ls [])) : W p l e (headSpec wsL_judges (dDm 12 249 1561 10079)).room s mth (([] : List Value).toArray) below meth c H [] cells slots Q (F0 mth 223 ls []) := by
  obtain ⟨hR1, hR2⟩ := hR
  unfold fL_judges223 at h
  refine lv_aload_n S.1 S.2.1 dL_judges_223 rfl (lv_at hl 0 rfl) ?_
  refine lv_iconst (v := 5) S.1 S.2.1 dL_judges_224 (by decide) ?_
  obtain ⟨q4, hc1, h⟩ := d_b h
  rcases q4 with q4 | q4
  · have h := d_s1 h
    cases h
  obtain ⟨v3, m2⟩ := q4
  have h := d_s2 h
  have h := d_p2 h
  refine dwxi (vx_runV (As := [.int 5]) (rest := []) S (kX11_ranked l g hst hc1) (cwV 1 S.2.2.2.2 gL_judges_X11_ranked rfl rfl rfl ynX11_ranked ⟨(Nat.le_of_ble_eq_true rfl), (Nat.le_of_ble_eq_true rfl)⟩) (dwV hE hP hS hb (ci := 11) rfl (dat12 dk_0)) rfl rfl hl.1 rfl (lv_room (Nat.le_of_ble_eq_true rfl)) dL_judges_225 ⟨by omega, by omega⟩) rfl hE hS hb hKs hK (fun H hP hS hb hK => ?_)
  refine lv_iconst (v := 5) S.1 S.2.1 dL_judges_228 (by decide) ?_
  refine lv_icmp_ne (tgt := 422) S.1 S.2.1 dL_judges_229 (by decide) (fun cq => ?_) (fun cq => ?_)
  · have h := d_f cq h
    cases h
  · have h := d_t cq h
    refine lv_aload_n S.1 S.2.1 dL_judges_232 rfl (lv_at hl 0 rfl) ?_
    refine lv_bipush (v := 16) S.1 S.2.1 dL_judges_233 (by decide) ?_
    refine lv_iconst (v := 0) S.1 S.2.1 dL_judges_235 (by decide) ?_
    refine lv_sipush (v := 599) S.1 S.2.1 dL_judges_236 (by decide) ?_
    refine lv_iconst (v := 0) S.1 S.2.1 dL_judges_239 (by decide) ?_
    refine lv_iconst (v := 0) S.1 S.2.1 dL_judges_240 (by decide) ?_
    obtain ⟨⟨v7, m6⟩, hc5, h⟩ := d_b h
    have h := d_p2 h
    refine dwLj (vx_runSX (As := [.ref (dad g 0), .int 16, .int 0, .int 599, .int 0, .int 0]) (rest := []) S (kL_act l g hst hc5) (vx_cwSW 6 S.2.2.2.2 gL_judges_L_act rfl rfl rfl ynL_act ⟨(Nat.le_of_ble_eq_true rfl), (Nat.le_of_ble_eq_true rfl)⟩) (dwS hE hP hS hb) rfl rfl hl.1 rfl (lv_room (Nat.le_of_ble_eq_true rfl)) dL_judges_241 ⟨by omega, by omega⟩) hE hS hb hKs hK (fun H hP hS hb hK => ?_)
    refine lv_lconst (v := 1) S.1 S.2.1 dL_judges_244 (by decide) ?_
    refine W.lcmp S.1 S.2.1 dL_judges_245 ?_
    refine lv_if_ne (tgt := 422) S.1 S.2.1 dL_judges_246 (by decide) (fun cq => ?_) (fun cq => ?_)
    · have h := d_f cq h
      cases h
    · have h := d_t cq h
      refine lv_aload_n S.1 S.2.1 dL_judges_249 rfl (lv_at hl 0 rfl) ?_
      refine lv_iconst (v := 0) S.1 S.2.1 dL_judges_250 (by decide) ?_
      refine lv_iconst (v := 2) S.1 S.2.1 dL_judges_251 (by decide) ?_
      refine lv_iconst (v := 5) S.1 S.2.1 dL_judges_252 (by decide) ?_
      obtain ⟨q11, hc8, h⟩ := d_b h
      rcases q11 with q11 | q11
      · have h := d_s1 h
        cases h
      obtain ⟨v10, m9⟩ := q11
      have h := d_s2 h
      have h := d_p2 h
      refine dwxi (vx_runV (As := [.int 0, .int 2, .int 5]) (rest := []) S (kX11_judge l g hst hc8) (cwV 3 S.2.2.2.2 gL_judges_X11_judge rfl rfl rfl ynX11_judge ⟨(Nat.le_of_ble_eq_true rfl), (Nat.le_of_ble_eq_true rfl)⟩) (dwV hE hP hS hb (ci := 11) rfl (dat12 dk_0)) rfl rfl hl.1 rfl (lv_room (Nat.le_of_ble_eq_true rfl)) dL_judges_253 ⟨by omega, by omega⟩) rfl hE hS hb hKs hK (fun H hP hS hb hK => ?_)
      refine lv_sipush (v := 399) S.1 S.2.1 dL_judges_256 (by decide) ?_
      refine lv_icmp_ne (tgt := 422) S.1 S.2.1 dL_judges_259 (by decide) (fun cq => ?_) (fun cq => ?_)
      · have h := d_f cq h
        cases h
      · have h := d_t cq h
        refine lv_aload_n S.1 S.2.1 dL_judges_262 rfl (lv_at hl 0 rfl) ?_
        refine lv_iconst (v := 0) S.1 S.2.1 dL_judges_263 (by decide) ?_
        refine lv_iconst (v := 3) S.1 S.2.1 dL_judges_264 (by decide) ?_
        refine lv_iconst (v := 2) S.1 S.2.1 dL_judges_265 (by decide) ?_
        obtain ⟨q15, hc12, h⟩ := d_b h
        rcases q15 with q15 | q15
        · have h := d_s1 h
          cases h
        obtain ⟨v14, m13⟩ := q15
        have h := d_s2 h
        have h := d_p2 h
        refine dwxi (vx_runV (As := [.int 0, .int 3, .int 2]) (rest := []) S (kX11_judge l g hst hc12) (cwV 3 S.2.2.2.2 gL_judges_X11_judge rfl rfl rfl ynX11_judge ⟨(Nat.le_of_ble_eq_true rfl), (Nat.le_of_ble_eq_true rfl)⟩) (dwV hE hP hS hb (ci := 11) rfl (dat12 dk_0)) rfl rfl hl.1 rfl (lv_room (Nat.le_of_ble_eq_true rfl)) dL_judges_266 ⟨by omega, by omega⟩) rfl hE hS hb hKs hK (fun H hP hS hb hK => ?_)
        refine lv_sipush (v := 400) S.1 S.2.1 dL_judges_269 (by decide) ?_
        refine lv_icmp_ne (tgt := 422) S.1 S.2.1 dL_judges_272 (by decide) (fun cq => ?_) (fun cq => ?_)
        · have h := d_f cq h
          cases h
        · have h := d_t cq h
          refine lv_aload_n S.1 S.2.1 dL_judges_275 rfl (lv_at hl 0 rfl) ?_
          refine lv_iconst (v := 0) S.1 S.2.1 dL_judges_276 (by decide) ?_
          obtain ⟨q19, hc16, h⟩ := d_b h
          rcases q19 with q19 | q19
          · have h := d_s1 h
            cases h
          obtain ⟨v18, m17⟩ := q19
          have h := d_s2 h
          have h := d_p2 h
          refine dwxi (vx_runV (As := [.int 0]) (rest := []) S (kX11_ranked l g hst hc16) (cwV 1 S.2.2.2.2 gL_judges_X11_ranked rfl rfl rfl ynX11_ranked ⟨(Nat.le_of_ble_eq_true rfl), (Nat.le_of_ble_eq_true rfl)⟩) (dwV hE hP hS hb (ci := 11) rfl (dat12 dk_0)) rfl rfl hl.1 rfl (lv_room (Nat.le_of_ble_eq_true rfl)) dL_judges_277 ⟨by omega, by omega⟩) rfl hE hS hb hKs hK (fun H hP hS hb hK => ?_)
          refine lv_if_ne (tgt := 422) S.1 S.2.1 dL_judges_280 (by decide) (fun cq => ?_) (fun cq => ?_)
          · have h := d_f cq h
            cases h
          · have h := d_t cq h
            refine lv_aload_n S.1 S.2.1 dL_judges_283 rfl (lv_at hl 0 rfl) ?_
            refine lv_iconst (v := 0) S.1 S.2.1 dL_judges_284 (by decide) ?_
            refine lv_iconst (v := 1) S.1 S.2.1 dL_judges_285 (by decide) ?_
            obtain ⟨q23, hc20, h⟩ := d_b h
            rcases q23 with q23 | q23
            · have h := d_s1 h
              cases h
            obtain ⟨v22, m21⟩ := q23
            have h := d_s2 h
            have h := d_p2 h
            refine dwxi (vx_runV (As := [.int 0, .int 1]) (rest := []) S (kX11_penalty l g hst hc20) (cwV 2 S.2.2.2.2 gL_judges_X11_penalty rfl rfl rfl ynX11_penalty ⟨(Nat.le_of_ble_eq_true rfl), (Nat.le_of_ble_eq_true rfl)⟩) (dwV hE hP hS hb (ci := 11) rfl (dat12 dk_0)) rfl rfl hl.1 rfl (lv_room (Nat.le_of_ble_eq_true rfl)) dL_judges_286 ⟨by omega, by omega⟩) rfl hE hS hb hKs hK (fun H hP hS hb hK => ?_)
            refine lv_sipush (v := 399) S.1 S.2.1 dL_judges_289 (by decide) ?_
            refine lv_icmp_ne (tgt := 422) S.1 S.2.1 dL_judges_292 (by decide) (fun cq => ?_) (fun cq => ?_)
            · have h := d_f cq h
              cases h
            · have h := d_t cq h
              refine lv_aload_n S.1 S.2.1 dL_judges_295 rfl (lv_at hl 0 rfl) ?_
              refine lv_iconst (v := 0) S.1 S.2.1 dL_judges_296 (by decide) ?_
              obtain ⟨q27, hc24, h⟩ := d_b h
              rcases q27 with q27 | q27
              · have h := d_s1 h
                cases h
              obtain ⟨v26, m25⟩ := q27
              have h := d_s2 h
              have h := d_p2 h
              refine dwxi (vx_runV (As := [.int 0]) (rest := []) S (kX11_ranked l g hst hc24) (cwV 1 S.2.2.2.2 gL_judges_X11_ranked rfl rfl rfl ynX11_ranked ⟨(Nat.le_of_ble_eq_true rfl), (Nat.le_of_ble_eq_true rfl)⟩) (dwV hE hP hS hb (ci := 11) rfl (dat12 dk_0)) rfl rfl hl.1 rfl (lv_room (Nat.le_of_ble_eq_true rfl)) dL_judges_297 ⟨by omega, by omega⟩) rfl hE hS hb hKs hK (fun H hP hS hb hK => ?_)
              refine lv_iconst (v := 1) S.1 S.2.1 dL_judges_300 (by decide) ?_
              refine lv_icmp_ne (tgt := 422) S.1 S.2.1 dL_judges_301 (by decide) (fun cq => ?_) (fun cq => ?_)
              · have h := d_f cq h
                cases h
              · have h := d_t cq h
                refine lv_aload_n S.1 S.2.1 dL_judges_304 rfl (lv_at hl 0 rfl) ?_
                refine lv_iconst (v := 1) S.1 S.2.1 dL_judges_305 (by decide) ?_
                refine lv_sipush (v := 1000) S.1 S.2.1 dL_judges_306 (by decide) ?_
                obtain ⟨q31, hc28, h⟩ := d_b h
                rcases q31 with q31 | q31
                · have h := d_s1 h
                  cases h
                obtain ⟨v30, m29⟩ := q31
                have h := d_s2 h
                have h := d_p2 h
                refine dwxi (vx_runV (As := [.int 1, .int 1000]) (rest := []) S (kX11_penalty l g hst hc28) (cwV 2 S.2.2.2.2 gL_judges_X11_penalty rfl rfl rfl ynX11_penalty ⟨(Nat.le_of_ble_eq_true rfl), (Nat.le_of_ble_eq_true rfl)⟩) (dwV hE hP hS hb (ci := 11) rfl (dat12 dk_0)) rfl rfl hl.1 rfl (lv_room (Nat.le_of_ble_eq_true rfl)) dL_judges_309 ⟨by omega, by omega⟩) rfl hE hS hb hKs hK (fun H hP hS hb hK => ?_)
                refine lv_if_ne (tgt := 422) S.1 S.2.1 dL_judges_312 (by decide) (fun cq => ?_) (fun cq => ?_)
                · have h := d_f cq h
                  cases h
                · have h := d_t cq h
                  refine lv_aload_n S.1 S.2.1 dL_judges_315 rfl (lv_at hl 0 rfl) ?_
                  refine lv_iconst (v := 5) S.1 S.2.1 dL_judges_316 (by decide) ?_
                  obtain ⟨q35, hc32, h⟩ := d_b h
                  rcases q35 with q35 | q35
                  · have h := d_s1 h
                    cases h
                  obtain ⟨v34, m33⟩ := q35
                  have h := d_s2 h
                  have h := d_p2 h
                  refine dwxi (vx_runV (As := [.int 5]) (rest := []) S (kX11_ranked l g hst hc32) (cwV 1 S.2.2.2.2 gL_judges_X11_ranked rfl rfl rfl ynX11_ranked ⟨(Nat.le_of_ble_eq_true rfl), (Nat.le_of_ble_eq_true rfl)⟩) (dwV hE hP hS hb (ci := 11) rfl (dat12 dk_0)) rfl rfl hl.1 rfl (lv_room (Nat.le_of_ble_eq_true rfl)) dL_judges_317 ⟨by omega, by omega⟩) rfl hE hS hb hKs hK (fun H hP hS hb hK => ?_)
                  refine lv_iconst (v := 5) S.1 S.2.1 dL_judges_320 (by decide) ?_
                  refine lv_icmp_ne (tgt := 422) S.1 S.2.1 dL_judges_321 (by decide) (fun cq => ?_) (fun cq => ?_)
                  · have h := d_f cq h
                    cases h
                  · have h := d_t cq h
                    obtain rfl := Option.some.inj h
                    exact kk H ls _ _ (by omega) (by omega) hP hS hb hK (lv_sub hl [0] rfl)
def fL_judges324 (m : dM) : Option dM := (fX11_ranked m 0 1).bind (fun q => dS q (fun _ => none) (fun q => dP2 q (fun v3 m2 => if v3 = 1 then (fX11_judge m2 0 3 3 5).bind (fun q => dS q (fun _ => none) (fun q => dP2 q (fun v7 m6 => if v7 = 0 then (fX11_ranked m6 0 2).bind (fun q => dS q (fun _ => none) (fun q => dP2 q (fun v11 m10 => if v11 = 3 then (fX11_ranked m10 0 3).bind (fun q => dS q (fun _ => none) (fun q => dP2 q (fun v15 m14 => if v15 = 2 then (fL_act m14 0 16 600 600 0 0).bind (fun q => dP2 q (fun v19 m18 => if (lg_cmp v19 1) = 0 then (fX11_penalty m18 0 0 0).bind (fun q => dS q (fun _ => none) (fun q => dP2 q (fun v22 m21 => if v22 = 401 then (fL_act m21 0 16 9999 9999 0 0).bind (fun q => dP2 q (fun v26 m25 => if (lg_cmp v26 1) = 0 then (fX11_penalty m25 0 0 0).bind (fun q => dS q (fun _ => none) (fun q => dP2 q (fun v29 m28 => if v29 = 87 then (fX11_rehearse m28 0 50 27).bind (fun q => dS q (fun _ => none) (fun q => dP2 q (fun v33 m32 => if v33 = 50 then some m32 else none))) else none))) else none)) else none))) else none)) else none))) else none))) else none))) else none)))
set_option maxHeartbeats 4000000 in
set_option maxRecDepth 100000 in
theorem kL_judges324 {p : Program} {l : Launch} {e : Env} {s : State} {mth : MethodId} {below : List Frame} {meth : Method} {c : Code} {g : dG} {Q : State → Prop} {H : Heap} {cells slots : Nat} {ls : Array Slot} {m m9 : dM} {K : Heap → Prop} (hst : l.stackTraces = false) (S : CallFix p mth c cL_judges 2 s (([] : List Value).toArray) wsL_judges RL) (hE : dEw g s) (hKs : ∀ H H1 : Heap, (∀ q, q < g.2.2.2 → H1[q]? = H[q]?) → K H → K H1) (hR : cells + 20 ≤ (headSpec wsL_judges (dDm 12 249 1561 10079)).room.cells ∧ slots + 120 ≤ (headSpec wsL_judges (dDm 12 249 1561 10079)).room.slots) (h : fL_judges324 m = some m9) (hP : va_P g.1 vwCl (dws g m) H) (hS : va_S (dAs s) s.heap H []) (hb : g.2.2.2 ≤ H.size) (hK : K H) (hl : lv_has ls 2 [(0, .ref (dad g 0))])
    (kk : ∀ (H : Heap) (ls : Array Slot) (cells2 slots2 : Nat), cells2 ≤ cells + 20 → slots2 ≤ slots + 120 → va_P g.1 vwCl (dws g m9) H → va_S (dAs s) s.heap H [] → g.2.2.2 ≤ H.size → K H → lv_has ls 2 [(0, .ref (dad g 0))] → W p l e (headSpec wsL_judges (dDm 12 249 1561 10079)).room s mth (([] : List Value).toArray) below meth c H [] cells2 slots2 Q (F0 mth 437 ls [])) : W p l e (headSpec wsL_judges (dDm 12 249 1561 10079)).room s mth (([] : List Value).toArray) below meth c H [] cells slots Q (F0 mth 324 ls []) := by
  obtain ⟨hR1, hR2⟩ := hR
  unfold fL_judges324 at h
  refine lv_aload_n S.1 S.2.1 dL_judges_324 rfl (lv_at hl 0 rfl) ?_
  refine lv_iconst (v := 1) S.1 S.2.1 dL_judges_325 (by decide) ?_
  obtain ⟨q4, hc1, h⟩ := d_b h
  rcases q4 with q4 | q4
  · have h := d_s1 h
    cases h
  obtain ⟨v3, m2⟩ := q4
  have h := d_s2 h
  have h := d_p2 h
  refine dwxi (vx_runV (As := [.int 1]) (rest := []) S (kX11_ranked l g hst hc1) (cwV 1 S.2.2.2.2 gL_judges_X11_ranked rfl rfl rfl ynX11_ranked ⟨(Nat.le_of_ble_eq_true rfl), (Nat.le_of_ble_eq_true rfl)⟩) (dwV hE hP hS hb (ci := 11) rfl (dat12 dk_0)) rfl rfl hl.1 rfl (lv_room (Nat.le_of_ble_eq_true rfl)) dL_judges_326 ⟨by omega, by omega⟩) rfl hE hS hb hKs hK (fun H hP hS hb hK => ?_)
  refine lv_iconst (v := 1) S.1 S.2.1 dL_judges_329 (by decide) ?_
  refine lv_icmp_ne (tgt := 422) S.1 S.2.1 dL_judges_330 (by decide) (fun cq => ?_) (fun cq => ?_)
  · have h := d_f cq h
    cases h
  · have h := d_t cq h
    refine lv_aload_n S.1 S.2.1 dL_judges_333 rfl (lv_at hl 0 rfl) ?_
    refine lv_iconst (v := 3) S.1 S.2.1 dL_judges_334 (by decide) ?_
    refine lv_iconst (v := 3) S.1 S.2.1 dL_judges_335 (by decide) ?_
    refine lv_iconst (v := 5) S.1 S.2.1 dL_judges_336 (by decide) ?_
    obtain ⟨q8, hc5, h⟩ := d_b h
    rcases q8 with q8 | q8
    · have h := d_s1 h
      cases h
    obtain ⟨v7, m6⟩ := q8
    have h := d_s2 h
    have h := d_p2 h
    refine dwxi (vx_runV (As := [.int 3, .int 3, .int 5]) (rest := []) S (kX11_judge l g hst hc5) (cwV 3 S.2.2.2.2 gL_judges_X11_judge rfl rfl rfl ynX11_judge ⟨(Nat.le_of_ble_eq_true rfl), (Nat.le_of_ble_eq_true rfl)⟩) (dwV hE hP hS hb (ci := 11) rfl (dat12 dk_0)) rfl rfl hl.1 rfl (lv_room (Nat.le_of_ble_eq_true rfl)) dL_judges_337 ⟨by omega, by omega⟩) rfl hE hS hb hKs hK (fun H hP hS hb hK => ?_)
    refine lv_if_ne (tgt := 422) S.1 S.2.1 dL_judges_340 (by decide) (fun cq => ?_) (fun cq => ?_)
    · have h := d_f cq h
      cases h
    · have h := d_t cq h
      refine lv_aload_n S.1 S.2.1 dL_judges_343 rfl (lv_at hl 0 rfl) ?_
      refine lv_iconst (v := 2) S.1 S.2.1 dL_judges_344 (by decide) ?_
      obtain ⟨q12, hc9, h⟩ := d_b h
      rcases q12 with q12 | q12
      · have h := d_s1 h
        cases h
      obtain ⟨v11, m10⟩ := q12
      have h := d_s2 h
      have h := d_p2 h
      refine dwxi (vx_runV (As := [.int 2]) (rest := []) S (kX11_ranked l g hst hc9) (cwV 1 S.2.2.2.2 gL_judges_X11_ranked rfl rfl rfl ynX11_ranked ⟨(Nat.le_of_ble_eq_true rfl), (Nat.le_of_ble_eq_true rfl)⟩) (dwV hE hP hS hb (ci := 11) rfl (dat12 dk_0)) rfl rfl hl.1 rfl (lv_room (Nat.le_of_ble_eq_true rfl)) dL_judges_345 ⟨by omega, by omega⟩) rfl hE hS hb hKs hK (fun H hP hS hb hK => ?_)
      refine lv_iconst (v := 3) S.1 S.2.1 dL_judges_348 (by decide) ?_
      refine lv_icmp_ne (tgt := 422) S.1 S.2.1 dL_judges_349 (by decide) (fun cq => ?_) (fun cq => ?_)
      · have h := d_f cq h
        cases h
      · have h := d_t cq h
        refine lv_aload_n S.1 S.2.1 dL_judges_352 rfl (lv_at hl 0 rfl) ?_
        refine lv_iconst (v := 3) S.1 S.2.1 dL_judges_353 (by decide) ?_
        obtain ⟨q16, hc13, h⟩ := d_b h
        rcases q16 with q16 | q16
        · have h := d_s1 h
          cases h
        obtain ⟨v15, m14⟩ := q16
        have h := d_s2 h
        have h := d_p2 h
        refine dwxi (vx_runV (As := [.int 3]) (rest := []) S (kX11_ranked l g hst hc13) (cwV 1 S.2.2.2.2 gL_judges_X11_ranked rfl rfl rfl ynX11_ranked ⟨(Nat.le_of_ble_eq_true rfl), (Nat.le_of_ble_eq_true rfl)⟩) (dwV hE hP hS hb (ci := 11) rfl (dat12 dk_0)) rfl rfl hl.1 rfl (lv_room (Nat.le_of_ble_eq_true rfl)) dL_judges_354 ⟨by omega, by omega⟩) rfl hE hS hb hKs hK (fun H hP hS hb hK => ?_)
        refine lv_iconst (v := 2) S.1 S.2.1 dL_judges_357 (by decide) ?_
        refine lv_icmp_ne (tgt := 422) S.1 S.2.1 dL_judges_358 (by decide) (fun cq => ?_) (fun cq => ?_)
        · have h := d_f cq h
          cases h
        · have h := d_t cq h
          refine lv_aload_n S.1 S.2.1 dL_judges_361 rfl (lv_at hl 0 rfl) ?_
          refine lv_bipush (v := 16) S.1 S.2.1 dL_judges_362 (by decide) ?_
          refine lv_sipush (v := 600) S.1 S.2.1 dL_judges_364 (by decide) ?_
          refine lv_sipush (v := 600) S.1 S.2.1 dL_judges_367 (by decide) ?_
          refine lv_iconst (v := 0) S.1 S.2.1 dL_judges_370 (by decide) ?_
          refine lv_iconst (v := 0) S.1 S.2.1 dL_judges_371 (by decide) ?_
          obtain ⟨⟨v19, m18⟩, hc17, h⟩ := d_b h
          have h := d_p2 h
          refine dwLj (vx_runSX (As := [.ref (dad g 0), .int 16, .int 600, .int 600, .int 0, .int 0]) (rest := []) S (kL_act l g hst hc17) (vx_cwSW 6 S.2.2.2.2 gL_judges_L_act rfl rfl rfl ynL_act ⟨(Nat.le_of_ble_eq_true rfl), (Nat.le_of_ble_eq_true rfl)⟩) (dwS hE hP hS hb) rfl rfl hl.1 rfl (lv_room (Nat.le_of_ble_eq_true rfl)) dL_judges_372 ⟨by omega, by omega⟩) hE hS hb hKs hK (fun H hP hS hb hK => ?_)
          refine lv_lconst (v := 1) S.1 S.2.1 dL_judges_375 (by decide) ?_
          refine W.lcmp S.1 S.2.1 dL_judges_376 ?_
          refine lv_if_ne (tgt := 422) S.1 S.2.1 dL_judges_377 (by decide) (fun cq => ?_) (fun cq => ?_)
          · have h := d_f cq h
            cases h
          · have h := d_t cq h
            refine lv_aload_n S.1 S.2.1 dL_judges_380 rfl (lv_at hl 0 rfl) ?_
            refine lv_iconst (v := 0) S.1 S.2.1 dL_judges_381 (by decide) ?_
            refine lv_iconst (v := 0) S.1 S.2.1 dL_judges_382 (by decide) ?_
            obtain ⟨q23, hc20, h⟩ := d_b h
            rcases q23 with q23 | q23
            · have h := d_s1 h
              cases h
            obtain ⟨v22, m21⟩ := q23
            have h := d_s2 h
            have h := d_p2 h
            refine dwxi (vx_runV (As := [.int 0, .int 0]) (rest := []) S (kX11_penalty l g hst hc20) (cwV 2 S.2.2.2.2 gL_judges_X11_penalty rfl rfl rfl ynX11_penalty ⟨(Nat.le_of_ble_eq_true rfl), (Nat.le_of_ble_eq_true rfl)⟩) (dwV hE hP hS hb (ci := 11) rfl (dat12 dk_0)) rfl rfl hl.1 rfl (lv_room (Nat.le_of_ble_eq_true rfl)) dL_judges_383 ⟨by omega, by omega⟩) rfl hE hS hb hKs hK (fun H hP hS hb hK => ?_)
            refine lv_sipush (v := 401) S.1 S.2.1 dL_judges_386 (by decide) ?_
            refine lv_icmp_ne (tgt := 422) S.1 S.2.1 dL_judges_389 (by decide) (fun cq => ?_) (fun cq => ?_)
            · have h := d_f cq h
              cases h
            · have h := d_t cq h
              refine lv_aload_n S.1 S.2.1 dL_judges_392 rfl (lv_at hl 0 rfl) ?_
              refine lv_bipush (v := 16) S.1 S.2.1 dL_judges_393 (by decide) ?_
              refine lv_sipush (v := 9999) S.1 S.2.1 dL_judges_395 (by decide) ?_
              refine lv_sipush (v := 9999) S.1 S.2.1 dL_judges_398 (by decide) ?_
              refine lv_iconst (v := 0) S.1 S.2.1 dL_judges_401 (by decide) ?_
              refine lv_iconst (v := 0) S.1 S.2.1 dL_judges_402 (by decide) ?_
              obtain ⟨⟨v26, m25⟩, hc24, h⟩ := d_b h
              have h := d_p2 h
              refine dwLj (vx_runSX (As := [.ref (dad g 0), .int 16, .int 9999, .int 9999, .int 0, .int 0]) (rest := []) S (kL_act l g hst hc24) (vx_cwSW 6 S.2.2.2.2 gL_judges_L_act rfl rfl rfl ynL_act ⟨(Nat.le_of_ble_eq_true rfl), (Nat.le_of_ble_eq_true rfl)⟩) (dwS hE hP hS hb) rfl rfl hl.1 rfl (lv_room (Nat.le_of_ble_eq_true rfl)) dL_judges_403 ⟨by omega, by omega⟩) hE hS hb hKs hK (fun H hP hS hb hK => ?_)
              refine lv_lconst (v := 1) S.1 S.2.1 dL_judges_406 (by decide) ?_
              refine W.lcmp S.1 S.2.1 dL_judges_407 ?_
              refine lv_if_ne (tgt := 422) S.1 S.2.1 dL_judges_408 (by decide) (fun cq => ?_) (fun cq => ?_)
              · have h := d_f cq h
                cases h
              · have h := d_t cq h
                refine lv_aload_n S.1 S.2.1 dL_judges_411 rfl (lv_at hl 0 rfl) ?_
                refine lv_iconst (v := 0) S.1 S.2.1 dL_judges_412 (by decide) ?_
                refine lv_iconst (v := 0) S.1 S.2.1 dL_judges_413 (by decide) ?_
                obtain ⟨q30, hc27, h⟩ := d_b h
                rcases q30 with q30 | q30
                · have h := d_s1 h
                  cases h
                obtain ⟨v29, m28⟩ := q30
                have h := d_s2 h
                have h := d_p2 h
                refine dwxi (vx_runV (As := [.int 0, .int 0]) (rest := []) S (kX11_penalty l g hst hc27) (cwV 2 S.2.2.2.2 gL_judges_X11_penalty rfl rfl rfl ynX11_penalty ⟨(Nat.le_of_ble_eq_true rfl), (Nat.le_of_ble_eq_true rfl)⟩) (dwV hE hP hS hb (ci := 11) rfl (dat12 dk_0)) rfl rfl hl.1 rfl (lv_room (Nat.le_of_ble_eq_true rfl)) dL_judges_414 ⟨by omega, by omega⟩) rfl hE hS hb hKs hK (fun H hP hS hb hK => ?_)
                refine lv_bipush (v := 87) S.1 S.2.1 dL_judges_417 (by decide) ?_
                refine lv_icmp_eq (tgt := 424) S.1 S.2.1 dL_judges_419 (by decide) (fun cq => ?_) (fun cq => ?_)
                · have h := d_t cq h
                  refine lv_aload_n S.1 S.2.1 dL_judges_424 rfl (lv_at hl 0 rfl) ?_
                  refine lv_bipush (v := 50) S.1 S.2.1 dL_judges_425 (by decide) ?_
                  refine lv_bipush (v := 27) S.1 S.2.1 dL_judges_427 (by decide) ?_
                  obtain ⟨q34, hc31, h⟩ := d_b h
                  rcases q34 with q34 | q34
                  · have h := d_s1 h
                    cases h
                  obtain ⟨v33, m32⟩ := q34
                  have h := d_s2 h
                  have h := d_p2 h
                  refine dwxi (vx_runV (As := [.int 50, .int 27]) (rest := []) S (kX11_rehearse l g hst hc31) (cwV 2 S.2.2.2.2 gL_judges_X11_rehearse rfl rfl rfl ynX11_rehearse ⟨(Nat.le_of_ble_eq_true rfl), (Nat.le_of_ble_eq_true rfl)⟩) (dwV hE hP hS hb (ci := 11) rfl (dat12 dk_0)) rfl rfl hl.1 rfl (lv_room (Nat.le_of_ble_eq_true rfl)) dL_judges_429 ⟨by omega, by omega⟩) rfl hE hS hb hKs hK (fun H hP hS hb hK => ?_)
                  refine lv_bipush (v := 50) S.1 S.2.1 dL_judges_432 (by decide) ?_
                  refine lv_icmp_ne (tgt := 590) S.1 S.2.1 dL_judges_434 (by decide) (fun cq => ?_) (fun cq => ?_)
                  · have h := d_f cq h
                    cases h
                  · have h := d_t cq h
                    obtain rfl := Option.some.inj h
                    exact kk H ls _ _ (by omega) (by omega) hP hS hb hK (lv_sub hl [0] rfl)
                · have h := d_f cq h
                  cases h
def fL_judges437 (m : dM) : Option dM := (fX11_rehearse m 0 51 27).bind (fun q => dS q (fun _ => none) (fun q => dP2 q (fun v3 m2 => if v3 = 61 then (fX11_rehearse m2 0 100 0).bind (fun q => dS q (fun _ => none) (fun q => dP2 q (fun v7 m6 => if v7 = 110 then (fX11_rehearse m6 0 30 28).bind (fun q => dS q (fun _ => none) (fun q => dP2 q (fun v11 m10 => if v11 = 30 then (fX11_rehearse m10 0 31 31).bind (fun q => dS q (fun _ => none) (fun q => dP2 q (fun v15 m14 => if v15 = 41 then (fX11_rehearse m14 0 20 32).bind (fun q => dS q (fun _ => none) (fun q => dP2 q (fun v19 m18 => if v19 = 20 then (fX11_rehearse m18 0 21 35).bind (fun q => dS q (fun _ => none) (fun q => dP2 q (fun v23 m22 => if v23 = 41 then (fX11_rehearse m22 0 41 35).bind (fun q => dS q (fun _ => none) (fun q => dP2 q (fun v27 m26 => if v27 = 81 then (fX11_rehearse m26 0 1 36).bind (fun q => dS q (fun _ => none) (fun q => dP2 q (fun v31 m30 => if v31 = (-1) then (fX11_rehearse m30 0 9999 60).bind (fun q => dS q (fun _ => none) (fun q => dP2 q (fun v35 m34 => if v35 = (-1) then some m34 else none))) else none))) else none))) else none))) else none))) else none))) else none))) else none))) else none)))
set_option maxHeartbeats 4000000 in
set_option maxRecDepth 100000 in
theorem kL_judges437 {p : Program} {l : Launch} {e : Env} {s : State} {mth : MethodId} {below : List Frame} {meth : Method} {c : Code} {g : dG} {Q : State → Prop} {H : Heap} {cells slots : Nat} {ls : Array Slot} {m m9 : dM} {K : Heap → Prop} (hst : l.stackTraces = false) (S : CallFix p mth c cL_judges 2 s (([] : List Value).toArray) wsL_judges RL) (hE : dEw g s) (hKs : ∀ H H1 : Heap, (∀ q, q < g.2.2.2 → H1[q]? = H[q]?) → K H → K H1) (hR : cells + 18 ≤ (headSpec wsL_judges (dDm 12 249 1561 10079)).room.cells ∧ slots + 108 ≤ (headSpec wsL_judges (dDm 12 249 1561 10079)).room.slots) (h : fL_judges437 m = some m9) (hP : va_P g.1 vwCl (dws g m) H) (hS : va_S (dAs s) s.heap H []) (hb : g.2.2.2 ≤ H.size) (hK : K H) (hl : lv_has ls 2 [(0, .ref (dad g 0))])
    (kk : ∀ (H : Heap) (ls : Array Slot) (cells2 slots2 : Nat), cells2 ≤ cells + 18 → slots2 ≤ slots + 108 → va_P g.1 vwCl (dws g m9) H → va_S (dAs s) s.heap H [] → g.2.2.2 ≤ H.size → K H → lv_has ls 2 [(0, .ref (dad g 0))] → W p l e (headSpec wsL_judges (dDm 12 249 1561 10079)).room s mth (([] : List Value).toArray) below meth c H [] cells2 slots2 Q (F0 mth 551 ls [])) : W p l e (headSpec wsL_judges (dDm 12 249 1561 10079)).room s mth (([] : List Value).toArray) below meth c H [] cells slots Q (F0 mth 437 ls []) := by
  obtain ⟨hR1, hR2⟩ := hR
  unfold fL_judges437 at h
  refine lv_aload_n S.1 S.2.1 dL_judges_437 rfl (lv_at hl 0 rfl) ?_
  refine lv_bipush (v := 51) S.1 S.2.1 dL_judges_438 (by decide) ?_
  refine lv_bipush (v := 27) S.1 S.2.1 dL_judges_440 (by decide) ?_
  obtain ⟨q4, hc1, h⟩ := d_b h
  rcases q4 with q4 | q4
  · have h := d_s1 h
    cases h
  obtain ⟨v3, m2⟩ := q4
  have h := d_s2 h
  have h := d_p2 h
  refine dwxi (vx_runV (As := [.int 51, .int 27]) (rest := []) S (kX11_rehearse l g hst hc1) (cwV 2 S.2.2.2.2 gL_judges_X11_rehearse rfl rfl rfl ynX11_rehearse ⟨(Nat.le_of_ble_eq_true rfl), (Nat.le_of_ble_eq_true rfl)⟩) (dwV hE hP hS hb (ci := 11) rfl (dat12 dk_0)) rfl rfl hl.1 rfl (lv_room (Nat.le_of_ble_eq_true rfl)) dL_judges_442 ⟨by omega, by omega⟩) rfl hE hS hb hKs hK (fun H hP hS hb hK => ?_)
  refine lv_bipush (v := 61) S.1 S.2.1 dL_judges_445 (by decide) ?_
  refine lv_icmp_ne (tgt := 590) S.1 S.2.1 dL_judges_447 (by decide) (fun cq => ?_) (fun cq => ?_)
  · have h := d_f cq h
    cases h
  · have h := d_t cq h
    refine lv_aload_n S.1 S.2.1 dL_judges_450 rfl (lv_at hl 0 rfl) ?_
    refine lv_bipush (v := 100) S.1 S.2.1 dL_judges_451 (by decide) ?_
    refine lv_iconst (v := 0) S.1 S.2.1 dL_judges_453 (by decide) ?_
    obtain ⟨q8, hc5, h⟩ := d_b h
    rcases q8 with q8 | q8
    · have h := d_s1 h
      cases h
    obtain ⟨v7, m6⟩ := q8
    have h := d_s2 h
    have h := d_p2 h
    refine dwxi (vx_runV (As := [.int 100, .int 0]) (rest := []) S (kX11_rehearse l g hst hc5) (cwV 2 S.2.2.2.2 gL_judges_X11_rehearse rfl rfl rfl ynX11_rehearse ⟨(Nat.le_of_ble_eq_true rfl), (Nat.le_of_ble_eq_true rfl)⟩) (dwV hE hP hS hb (ci := 11) rfl (dat12 dk_0)) rfl rfl hl.1 rfl (lv_room (Nat.le_of_ble_eq_true rfl)) dL_judges_454 ⟨by omega, by omega⟩) rfl hE hS hb hKs hK (fun H hP hS hb hK => ?_)
    refine lv_bipush (v := 110) S.1 S.2.1 dL_judges_457 (by decide) ?_
    refine lv_icmp_ne (tgt := 590) S.1 S.2.1 dL_judges_459 (by decide) (fun cq => ?_) (fun cq => ?_)
    · have h := d_f cq h
      cases h
    · have h := d_t cq h
      refine lv_aload_n S.1 S.2.1 dL_judges_462 rfl (lv_at hl 0 rfl) ?_
      refine lv_bipush (v := 30) S.1 S.2.1 dL_judges_463 (by decide) ?_
      refine lv_bipush (v := 28) S.1 S.2.1 dL_judges_465 (by decide) ?_
      obtain ⟨q12, hc9, h⟩ := d_b h
      rcases q12 with q12 | q12
      · have h := d_s1 h
        cases h
      obtain ⟨v11, m10⟩ := q12
      have h := d_s2 h
      have h := d_p2 h
      refine dwxi (vx_runV (As := [.int 30, .int 28]) (rest := []) S (kX11_rehearse l g hst hc9) (cwV 2 S.2.2.2.2 gL_judges_X11_rehearse rfl rfl rfl ynX11_rehearse ⟨(Nat.le_of_ble_eq_true rfl), (Nat.le_of_ble_eq_true rfl)⟩) (dwV hE hP hS hb (ci := 11) rfl (dat12 dk_0)) rfl rfl hl.1 rfl (lv_room (Nat.le_of_ble_eq_true rfl)) dL_judges_467 ⟨by omega, by omega⟩) rfl hE hS hb hKs hK (fun H hP hS hb hK => ?_)
      refine lv_bipush (v := 30) S.1 S.2.1 dL_judges_470 (by decide) ?_
      refine lv_icmp_ne (tgt := 590) S.1 S.2.1 dL_judges_472 (by decide) (fun cq => ?_) (fun cq => ?_)
      · have h := d_f cq h
        cases h
      · have h := d_t cq h
        refine lv_aload_n S.1 S.2.1 dL_judges_475 rfl (lv_at hl 0 rfl) ?_
        refine lv_bipush (v := 31) S.1 S.2.1 dL_judges_476 (by decide) ?_
        refine lv_bipush (v := 31) S.1 S.2.1 dL_judges_478 (by decide) ?_
        obtain ⟨q16, hc13, h⟩ := d_b h
        rcases q16 with q16 | q16
        · have h := d_s1 h
          cases h
        obtain ⟨v15, m14⟩ := q16
        have h := d_s2 h
        have h := d_p2 h
        refine dwxi (vx_runV (As := [.int 31, .int 31]) (rest := []) S (kX11_rehearse l g hst hc13) (cwV 2 S.2.2.2.2 gL_judges_X11_rehearse rfl rfl rfl ynX11_rehearse ⟨(Nat.le_of_ble_eq_true rfl), (Nat.le_of_ble_eq_true rfl)⟩) (dwV hE hP hS hb (ci := 11) rfl (dat12 dk_0)) rfl rfl hl.1 rfl (lv_room (Nat.le_of_ble_eq_true rfl)) dL_judges_480 ⟨by omega, by omega⟩) rfl hE hS hb hKs hK (fun H hP hS hb hK => ?_)
        refine lv_bipush (v := 41) S.1 S.2.1 dL_judges_483 (by decide) ?_
        refine lv_icmp_ne (tgt := 590) S.1 S.2.1 dL_judges_485 (by decide) (fun cq => ?_) (fun cq => ?_)
        · have h := d_f cq h
          cases h
        · have h := d_t cq h
          refine lv_aload_n S.1 S.2.1 dL_judges_488 rfl (lv_at hl 0 rfl) ?_
          refine lv_bipush (v := 20) S.1 S.2.1 dL_judges_489 (by decide) ?_
          refine lv_bipush (v := 32) S.1 S.2.1 dL_judges_491 (by decide) ?_
          obtain ⟨q20, hc17, h⟩ := d_b h
          rcases q20 with q20 | q20
          · have h := d_s1 h
            cases h
          obtain ⟨v19, m18⟩ := q20
          have h := d_s2 h
          have h := d_p2 h
          refine dwxi (vx_runV (As := [.int 20, .int 32]) (rest := []) S (kX11_rehearse l g hst hc17) (cwV 2 S.2.2.2.2 gL_judges_X11_rehearse rfl rfl rfl ynX11_rehearse ⟨(Nat.le_of_ble_eq_true rfl), (Nat.le_of_ble_eq_true rfl)⟩) (dwV hE hP hS hb (ci := 11) rfl (dat12 dk_0)) rfl rfl hl.1 rfl (lv_room (Nat.le_of_ble_eq_true rfl)) dL_judges_493 ⟨by omega, by omega⟩) rfl hE hS hb hKs hK (fun H hP hS hb hK => ?_)
          refine lv_bipush (v := 20) S.1 S.2.1 dL_judges_496 (by decide) ?_
          refine lv_icmp_ne (tgt := 590) S.1 S.2.1 dL_judges_498 (by decide) (fun cq => ?_) (fun cq => ?_)
          · have h := d_f cq h
            cases h
          · have h := d_t cq h
            refine lv_aload_n S.1 S.2.1 dL_judges_501 rfl (lv_at hl 0 rfl) ?_
            refine lv_bipush (v := 21) S.1 S.2.1 dL_judges_502 (by decide) ?_
            refine lv_bipush (v := 35) S.1 S.2.1 dL_judges_504 (by decide) ?_
            obtain ⟨q24, hc21, h⟩ := d_b h
            rcases q24 with q24 | q24
            · have h := d_s1 h
              cases h
            obtain ⟨v23, m22⟩ := q24
            have h := d_s2 h
            have h := d_p2 h
            refine dwxi (vx_runV (As := [.int 21, .int 35]) (rest := []) S (kX11_rehearse l g hst hc21) (cwV 2 S.2.2.2.2 gL_judges_X11_rehearse rfl rfl rfl ynX11_rehearse ⟨(Nat.le_of_ble_eq_true rfl), (Nat.le_of_ble_eq_true rfl)⟩) (dwV hE hP hS hb (ci := 11) rfl (dat12 dk_0)) rfl rfl hl.1 rfl (lv_room (Nat.le_of_ble_eq_true rfl)) dL_judges_506 ⟨by omega, by omega⟩) rfl hE hS hb hKs hK (fun H hP hS hb hK => ?_)
            refine lv_bipush (v := 41) S.1 S.2.1 dL_judges_509 (by decide) ?_
            refine lv_icmp_ne (tgt := 590) S.1 S.2.1 dL_judges_511 (by decide) (fun cq => ?_) (fun cq => ?_)
            · have h := d_f cq h
              cases h
            · have h := d_t cq h
              refine lv_aload_n S.1 S.2.1 dL_judges_514 rfl (lv_at hl 0 rfl) ?_
              refine lv_bipush (v := 41) S.1 S.2.1 dL_judges_515 (by decide) ?_
              refine lv_bipush (v := 35) S.1 S.2.1 dL_judges_517 (by decide) ?_
              obtain ⟨q28, hc25, h⟩ := d_b h
              rcases q28 with q28 | q28
              · have h := d_s1 h
                cases h
              obtain ⟨v27, m26⟩ := q28
              have h := d_s2 h
              have h := d_p2 h
              refine dwxi (vx_runV (As := [.int 41, .int 35]) (rest := []) S (kX11_rehearse l g hst hc25) (cwV 2 S.2.2.2.2 gL_judges_X11_rehearse rfl rfl rfl ynX11_rehearse ⟨(Nat.le_of_ble_eq_true rfl), (Nat.le_of_ble_eq_true rfl)⟩) (dwV hE hP hS hb (ci := 11) rfl (dat12 dk_0)) rfl rfl hl.1 rfl (lv_room (Nat.le_of_ble_eq_true rfl)) dL_judges_519 ⟨by omega, by omega⟩) rfl hE hS hb hKs hK (fun H hP hS hb hK => ?_)
              refine lv_bipush (v := 81) S.1 S.2.1 dL_judges_522 (by decide) ?_
              refine lv_icmp_ne (tgt := 590) S.1 S.2.1 dL_judges_524 (by decide) (fun cq => ?_) (fun cq => ?_)
              · have h := d_f cq h
                cases h
              · have h := d_t cq h
                refine lv_aload_n S.1 S.2.1 dL_judges_527 rfl (lv_at hl 0 rfl) ?_
                refine lv_iconst (v := 1) S.1 S.2.1 dL_judges_528 (by decide) ?_
                refine lv_bipush (v := 36) S.1 S.2.1 dL_judges_529 (by decide) ?_
                obtain ⟨q32, hc29, h⟩ := d_b h
                rcases q32 with q32 | q32
                · have h := d_s1 h
                  cases h
                obtain ⟨v31, m30⟩ := q32
                have h := d_s2 h
                have h := d_p2 h
                refine dwxi (vx_runV (As := [.int 1, .int 36]) (rest := []) S (kX11_rehearse l g hst hc29) (cwV 2 S.2.2.2.2 gL_judges_X11_rehearse rfl rfl rfl ynX11_rehearse ⟨(Nat.le_of_ble_eq_true rfl), (Nat.le_of_ble_eq_true rfl)⟩) (dwV hE hP hS hb (ci := 11) rfl (dat12 dk_0)) rfl rfl hl.1 rfl (lv_room (Nat.le_of_ble_eq_true rfl)) dL_judges_531 ⟨by omega, by omega⟩) rfl hE hS hb hKs hK (fun H hP hS hb hK => ?_)
                refine lv_iconst (v := (-1)) S.1 S.2.1 dL_judges_534 (by decide) ?_
                refine lv_icmp_ne (tgt := 590) S.1 S.2.1 dL_judges_535 (by decide) (fun cq => ?_) (fun cq => ?_)
                · have h := d_f cq h
                  cases h
                · have h := d_t cq h
                  refine lv_aload_n S.1 S.2.1 dL_judges_538 rfl (lv_at hl 0 rfl) ?_
                  refine lv_sipush (v := 9999) S.1 S.2.1 dL_judges_539 (by decide) ?_
                  refine lv_bipush (v := 60) S.1 S.2.1 dL_judges_542 (by decide) ?_
                  obtain ⟨q36, hc33, h⟩ := d_b h
                  rcases q36 with q36 | q36
                  · have h := d_s1 h
                    cases h
                  obtain ⟨v35, m34⟩ := q36
                  have h := d_s2 h
                  have h := d_p2 h
                  refine dwxi (vx_runV (As := [.int 9999, .int 60]) (rest := []) S (kX11_rehearse l g hst hc33) (cwV 2 S.2.2.2.2 gL_judges_X11_rehearse rfl rfl rfl ynX11_rehearse ⟨(Nat.le_of_ble_eq_true rfl), (Nat.le_of_ble_eq_true rfl)⟩) (dwV hE hP hS hb (ci := 11) rfl (dat12 dk_0)) rfl rfl hl.1 rfl (lv_room (Nat.le_of_ble_eq_true rfl)) dL_judges_544 ⟨by omega, by omega⟩) rfl hE hS hb hKs hK (fun H hP hS hb hK => ?_)
                  refine lv_iconst (v := (-1)) S.1 S.2.1 dL_judges_547 (by decide) ?_
                  refine lv_icmp_ne (tgt := 590) S.1 S.2.1 dL_judges_548 (by decide) (fun cq => ?_) (fun cq => ?_)
                  · have h := d_f cq h
                    cases h
                  · have h := d_t cq h
                    obtain rfl := Option.some.inj h
                    exact kk H ls _ _ (by omega) (by omega) hP hS hb hK (lv_sub hl [0] rfl)
def fL_judges (m : dM) : Option dM := (fL_jdA m).bind (fun m1 => (fL_jdB m1).bind (fun m5 => (fL_judges108 m5).bind (fun m9 => (fL_judges223 m9).bind (fun m13 => (fL_judges324 m13).bind (fun m17 => (fL_judges437 m17).bind (fun m21 => (fX11_rehearse m21 0 9999 0).bind (fun q => dS q (fun _ => none) (fun q => dP2 q (fun v27 m26 => if v27 = 11989 then (fX11_agrees m26 0).bind (fun q => dP2 q (fun v31 m30 => if v31 = 0 then none else (fL_refuses m30 4 12 12 10).bind (fun m33 => some m33))) else none)))))))))
set_option maxHeartbeats 4000000 in
set_option maxRecDepth 100000 in
theorem kL_judges (l : Launch) (g : dG) (hst : l.stackTraces = false) (hpL_judges : ∃ r, fL_judges dI = some r) : dDMet l g yL_judges wsL_judges 12 249 1561 10079 := by
  refine dDof (cc := cL_judges) (maxL := 2) (ret := (some .boolean)) (by decide) rfl ?_
  intro p e s mth below meth c S hr hlk hE0 hg ls hl
  have S : CallFix p mth c cL_judges 2 s (([] : List Value).toArray) wsL_judges RL := S
  have hS : va_S (dAs s) s.heap s.heap [] := va_S.rf
  have hR1 : 0 + 1561 ≤ (headSpec wsL_judges (dDm 12 249 1561 10079)).room.cells := (Nat.le_of_ble_eq_true rfl)
  have hR2 : 0 + 10079 ≤ (headSpec wsL_judges (dDm 12 249 1561 10079)).room.slots := (Nat.le_of_ble_eq_true rfl)
  have in11 : ∀ w ∈ wsX110, w ∈ wsL_judges := by decide +kernel
  obtain ⟨r9, h⟩ := hpL_judges
  unfold fL_judges at h
  refine d_newF (k1 := 443) (k2 := 3369) (fs := [.null, .null, .null, .null, .null, .null, .null, .null]) S in11 (S.2.2.2.2 (.classLink RL 8 RX11) (List.mem_of_getElem? (i := 1) rfl)) (S.2.2.2.2 (.instantiable RX11 8) (List.mem_of_getElem? (i := 2) rfl)) (S.2.2.2.2 (.initialized RX11) (List.mem_of_getElem? (i := 3) rfl)) hE0 rfl hS hfsX11 (fun q9 H9 locs9 c9 s9 hp hf => va_runI (As := []) (rest := [.ref q9]) S (kiX11 l _ q9 _) (cwI 0 S.2.2.2.2 gL_judges_X11_init rfl rfl rfl (S.2.2.2.2 (.initialized RX11) (List.mem_of_getElem? (i := 3) rfl)) (S.2.2.2.2 (.methodLink RL 129 yX11_init) (List.mem_of_getElem? (i := 5) rfl)) (S.2.2.2.2 (.instanceMethod yX11_init) (List.mem_of_getElem? (i := 6) rfl)) rfl yniX11 ⟨(Nat.le_of_ble_eq_true rfl), (Nat.le_of_ble_eq_true rfl)⟩) hp rfl rfl hl.1 rfl (lv_room (Nat.le_of_ble_eq_true rfl)) dL_judges_4 hf) (by omega) (by omega) dL_judges_0 dL_judges_3 (fun g H hE hgb hP hS hsz hold => ?_)
  have hb : g.2.2.2 ≤ H.size := by rw [hgb]; exact hsz
  have hKs : ∀ H H1 : Heap, (∀ q, q < g.2.2.2 → H1[q]? = H[q]?) → dK1 H → dK1 H1 := fun _ _ _ _ => trivial
  have hK : dK1 H := trivial
  refine lv_astore_n (lv' := [(0, .ref (dad g 0))]) S.1 S.2.1 dL_judges_7 rfl hl (by decide) rfl (fun ls hl => ?_)
  obtain ⟨m1, hm2, h⟩ := d_b h
  refine kL_jdA hst S hE hKs ⟨by omega, by omega⟩ hm2 hP hS hb hK (lv_sub hl [0] rfl) (fun H ls cl3 sl4 hccl3 hssl4 hP hS hb hK hl => ?_)
  obtain ⟨m5, hm6, h⟩ := d_b h
  refine kL_jdB hst S hE hKs ⟨by omega, by omega⟩ hm6 hP hS hb hK (lv_sub hl [0] rfl) (fun H ls cl7 sl8 hccl7 hssl8 hP hS hb hK hl => ?_)
  obtain ⟨m9, hm10, h⟩ := d_b h
  refine kL_judges108 hst S hE hKs ⟨by omega, by omega⟩ hm10 hP hS hb hK (lv_sub hl [0] rfl) (fun H ls cl11 sl12 hccl11 hssl12 hP hS hb hK hl => ?_)
  obtain ⟨m13, hm14, h⟩ := d_b h
  refine kL_judges223 hst S hE hKs ⟨by omega, by omega⟩ hm14 hP hS hb hK (lv_sub hl [0] rfl) (fun H ls cl15 sl16 hccl15 hssl16 hP hS hb hK hl => ?_)
  obtain ⟨m17, hm18, h⟩ := d_b h
  refine kL_judges324 hst S hE hKs ⟨by omega, by omega⟩ hm18 hP hS hb hK (lv_sub hl [0] rfl) (fun H ls cl19 sl20 hccl19 hssl20 hP hS hb hK hl => ?_)
  obtain ⟨m21, hm22, h⟩ := d_b h
  refine kL_judges437 hst S hE hKs ⟨by omega, by omega⟩ hm22 hP hS hb hK (lv_sub hl [0] rfl) (fun H ls cl23 sl24 hccl23 hssl24 hP hS hb hK hl => ?_)
  refine lv_aload_n S.1 S.2.1 dL_judges_551 rfl (lv_at hl 0 rfl) ?_
  refine lv_sipush (v := 9999) S.1 S.2.1 dL_judges_552 (by decide) ?_
  refine lv_iconst (v := 0) S.1 S.2.1 dL_judges_555 (by decide) ?_
  obtain ⟨q28, hc25, h⟩ := d_b h
  rcases q28 with q28 | q28
  · have h := d_s1 h
    cases h
  obtain ⟨v27, m26⟩ := q28
  have h := d_s2 h
  have h := d_p2 h
  refine dwxi (vx_runV (As := [.int 9999, .int 0]) (rest := []) S (kX11_rehearse l g hst hc25) (cwV 2 S.2.2.2.2 gL_judges_X11_rehearse rfl rfl rfl ynX11_rehearse ⟨(Nat.le_of_ble_eq_true rfl), (Nat.le_of_ble_eq_true rfl)⟩) (dwV hE hP hS hb (ci := 11) rfl (dat12 dk_0)) rfl rfl hl.1 rfl (lv_room (Nat.le_of_ble_eq_true rfl)) dL_judges_556 ⟨by omega, by omega⟩) rfl hE hS hb hKs hK (fun H hP hS hb hK => ?_)
  refine lv_sipush (v := 11989) S.1 S.2.1 dL_judges_559 (by decide) ?_
  refine lv_icmp_ne (tgt := 590) S.1 S.2.1 dL_judges_562 (by decide) (fun cq => ?_) (fun cq => ?_)
  · have h := d_f cq h
    cases h
  · have h := d_t cq h
    refine lv_aload_n S.1 S.2.1 dL_judges_565 rfl (lv_at hl 0 rfl) ?_
    obtain ⟨⟨v31, m30⟩, hc29, h⟩ := d_b h
    have h := d_p2 h
    refine dwi (va_runV (As := []) (rest := []) S (kX11_agrees l g hc29) (cwV 0 S.2.2.2.2 gL_judges_X11_agrees rfl rfl rfl ynX11_agrees ⟨(Nat.le_of_ble_eq_true rfl), (Nat.le_of_ble_eq_true rfl)⟩) (dwV hE hP hS hb (ci := 11) rfl (dat12 dk_0)) rfl rfl hl.1 rfl (lv_room (Nat.le_of_ble_eq_true rfl)) dL_judges_566 ⟨by omega, by omega⟩) hE hS hb hKs hK (fun H hP hS hb hK => ?_)
    refine lv_if_eq (tgt := 590) S.1 S.2.1 dL_judges_569 (by decide) (fun cq => ?_) (fun cq => ?_)
    · have h := d_t cq h
      cases h
    · have h := d_f cq h
      refine lv_aload_n S.1 S.2.1 dL_judges_572 rfl (lv_at hl 0 rfl) ?_
      refine lv_iconst (v := 4) S.1 S.2.1 dL_judges_573 (by decide) ?_
      refine lv_bipush (v := 12) S.1 S.2.1 dL_judges_574 (by decide) ?_
      refine lv_bipush (v := 12) S.1 S.2.1 dL_judges_576 (by decide) ?_
      refine lv_bipush (v := 10) S.1 S.2.1 dL_judges_578 (by decide) ?_
      obtain ⟨m33, hc32, h⟩ := d_b h
      refine dwLi (vx_runS (As := [.ref (dad g 0), .int 4, .int 12, .int 12, .int 10]) (rest := []) S (kL_refuses l g hst hc32) (va_cwS 5 S.2.2.2.2 gL_judges_L_refuses rfl rfl rfl ynL_refuses ⟨(Nat.le_of_ble_eq_true rfl), (Nat.le_of_ble_eq_true rfl)⟩) (dwS hE hP hS hb) rfl rfl hl.1 rfl (lv_room (Nat.le_of_ble_eq_true rfl)) dL_judges_580 ⟨by omega, by omega⟩) hE hS hb hKs hK (fun H hP hS hb hK => ?_)
      refine lv_if_eq (tgt := 590) S.1 S.2.1 dL_judges_583 (by decide) (fun cq => ?_) (fun cq => ?_)
      · exact absurd cq (by decide)
      · refine lv_iconst (v := 1) S.1 S.2.1 dL_judges_586 (by decide) ?_
        refine lv_goto (tgt := 591) S.1 S.2.1 dL_judges_587 (by decide) ?_
        exact dDti S hr hlk hg hS rfl (by omega) (by omega) dL_judges_591
theorem ynL_crosses : yL_crosses.cls ≠ "java/lang/invoke/MethodHandle" ∧ yL_crosses.cls ≠ "java/lang/invoke/VarHandle" ∧ (parseMethodDescriptor yL_crosses.desc).map (fun d => d.parameters.length) = some 0 := by decide +kernel
set_option maxRecDepth 20000 in
theorem ggL_crosses_X11_init : GoodIn wsL_crosses wsX11_init := goodIn_s _ [7, 8, 9, 10, 11, 12, 13, 14, 15, 16, 17, 18, 19, 20, 21, 22, 23, 24, 25, 26, 27, 28, 29, 30, 31, 32, 33, 34, 35, 36, 37, 38, 39, 40, 41, 42, 43, 44, 45, 46, 47, 48, 49, 50, 51, 52, 53, 54, 55, 56, 57, 58, 59, 60, 61, 62, 63, 64, 65, 66, 67, 68, 69, 70, 71, 72, 73, 74, 75, 76, 77, 78, 79, 80, 81, 82, 83, 84, 85, 86, 87, 88, 89, 90, 91, 92, 93, 94, 95, 96, 97, 98, 99, 100, 101, 102, 103, 104, 105, 106, 107, 108, 109, 110, 111, 112, 113, 114, 115, 116, 117, 118, 119, 120, 121, 122, 123, 124, 125, 126, 127, 128, 129, 130, 131, 132, 133, 134, 135, 136, 137, 138, 139, 140, 141, 142, 143, 144, 145, 146, 147, 148, 149, 740, 741, 742, 743, 744, 732, 733, 734, 735, 736, 737, 738, 739, 745, 746, 747, 748, 749, 750, 751, 752, 753, 754, 755, 756, 757, 758, 759, 760, 761, 762, 763, 764, 765, 766, 767, 768, 769, 770, 771, 772, 773, 774, 775, 776, 777, 778, 779, 780, 781, 782, 783, 784, 785, 786, 787] (by decide +kernel) (by decide +kernel)
set_option maxRecDepth 20000 in
theorem gL_crosses_X11_init : GoodIn wsL_crosses (wsX11_init) := ggL_crosses_X11_init
set_option maxRecDepth 20000 in
theorem ggL_crosses_L_act : GoodIn wsL_crosses wsL_act := goodIn_ca (goodIn_ca (goodIn_ca (goodIn_s _ [153, 154, 155, 156, 157, 158, 159, 160, 161, 152, 162, 163, 164, 165, 3, 166, 167, 168, 18, 14, 169, 170, 171, 172, 173, 174, 175, 176, 177, 178, 179, 17, 180, 181, 182, 54, 55, 13, 56, 57, 58, 59, 60, 61, 48, 50, 51, 52, 183, 184, 185, 186, 187, 188, 189, 190, 191, 192, 193, 194, 195, 196, 197, 198, 199, 200, 201, 202, 203, 204, 205, 206, 207, 208, 209, 210, 211, 212, 213, 214, 215, 216, 217, 218, 219, 220, 221, 222, 223, 224, 225, 226, 227, 228, 229, 230, 231, 232, 233, 234, 235, 236, 237, 238, 239, 240, 241, 242, 243, 68, 244, 245, 246, 247, 248, 249, 250, 251, 252, 33, 253, 72, 73, 254, 255, 256, 257, 258, 259, 260, 261, 262, 263, 264, 265, 266, 267, 268, 269, 270, 271, 272, 273, 274, 275, 276, 277, 67, 278, 279, 280, 281, 282, 283, 284, 285, 286, 287, 288, 289, 290, 291, 292, 293, 294, 295, 296, 297, 298, 299, 300, 301, 302, 303, 304, 305, 306, 307, 308, 309, 22, 310, 311, 312, 21, 313, 314, 315, 316, 317, 318, 319, 320, 321, 322, 323, 79, 82, 324, 325, 326, 81, 327, 328, 94, 95, 329, 330, 331, 332, 333, 86, 334, 335, 336, 337, 338, 339, 340, 341, 342, 343, 91, 344, 345, 346, 347, 92, 348, 349, 350, 351, 352, 353, 354, 355, 85, 356, 357, 358, 102, 103, 106, 359, 360, 361, 362, 363, 101, 364, 365, 366, 367, 368, 369, 370, 371, 372, 373, 374, 375, 104, 376, 105, 107, 377, 378, 379, 380, 381, 382, 383, 384, 385, 386, 387, 388, 389, 390, 391, 392, 393, 394, 395, 396, 397, 398, 399, 400, 93, 401, 402, 403, 404, 405, 406, 407, 408, 409, 410, 411, 412, 413, 414, 415, 416, 417, 418, 419, 420, 421, 422, 423, 424, 425, 426, 427, 428, 429, 430, 431, 432, 433, 434, 435, 436, 437, 438, 439, 440, 441, 442, 443, 444, 445, 446, 447, 448, 449, 450, 451, 452, 453, 454, 455, 456, 457, 458, 459, 460, 461, 462, 463, 464, 465, 466, 26, 467, 468, 469, 25, 470, 118, 471, 472, 473, 474, 475, 117, 476, 477, 478, 479, 480, 122, 123, 124, 125, 481, 482, 483, 484, 485, 113, 114, 486, 487, 488, 489, 490, 491, 492, 493, 494, 495, 496, 497, 498, 499, 500, 501, 502, 503, 504, 505, 506, 507, 508, 509, 510, 511, 512, 513, 514, 515, 516, 517, 518, 519, 520, 521, 522, 523, 524, 525, 526, 527, 528, 529, 530, 531, 532, 533, 534, 535, 536, 537, 538, 539, 34, 540, 541, 542, 543, 544, 545, 546, 547, 548, 549, 550, 551, 552, 553, 554, 555, 556, 557, 558, 559, 560, 561, 562, 563, 564, 565, 566, 567, 568, 569, 570, 571, 42, 572, 573, 574, 41, 575, 576, 149, 577, 578, 579, 580, 581, 582, 583, 584, 147, 585, 586, 587, 588, 589, 590, 591, 592, 593, 594, 595, 596, 148, 597, 598, 599, 600, 601, 602, 603, 604, 605, 606, 607, 608, 609, 610, 611, 612, 613, 614, 615, 616, 617, 618, 619, 620, 621, 622, 623, 624, 625, 626, 627, 628, 629, 630, 631, 632, 633, 732, 733, 734, 735, 736, 737, 738, 739, 745, 746, 747, 740, 741, 742, 743, 744, 760, 761, 748, 749, 750, 751, 769, 770, 771, 772, 773, 774, 775, 776, 777, 778, 779, 780, 781, 782, 783, 752, 753, 754, 755, 784, 785, 786, 787, 765, 766, 767, 768] (by decide +kernel) (by decide +kernel)) (goodIn_sub (fun _ h => List.mem_cons_of_mem _ (List.mem_append_left _ (List.mem_append_left _ (List.mem_append_right _ h)))) (by decide +kernel))) (goodIn_sub (fun _ h => List.mem_cons_of_mem _ (List.mem_append_left _ (List.mem_append_right _ h))) (by decide +kernel))) (goodIn_sub (fun _ h => List.mem_cons_of_mem _ (List.mem_append_right _ h)) (by decide +kernel))
set_option maxRecDepth 20000 in
theorem gL_crosses_L_act : GoodIn wsL_crosses (va_wsS RL 121 yL_act wsL_act) := goodIn_app (goodIn_of _ (by decide +kernel)) ggL_crosses_L_act
set_option maxRecDepth 20000 in
theorem ggL_crosses_X11_line : GoodIn wsL_crosses wsX11_line := goodIn_ca (goodIn_ca (goodIn_s _ [236, 172, 173, 18, 14, 237, 238, 3, 239, 174, 175, 176, 191, 192, 193, 13, 194, 61, 240, 241, 242, 17, 243, 68, 244, 245, 246, 247, 248, 249, 250, 251, 252, 33, 253, 72, 73, 204, 205, 254, 255, 256, 257, 167, 168, 258, 259, 260, 261, 262, 263, 264, 265, 266, 267, 268, 269, 177, 178, 179, 180, 181, 270, 271, 272, 273, 274, 275, 276, 277, 67, 278, 279, 280, 281, 282, 283, 284, 732, 733, 734, 735, 736, 737, 738, 739, 740, 741, 742, 743, 744, 745, 746, 747, 760, 761] (by decide +kernel) (by decide +kernel)) (goodIn_sub (fun _ h => List.mem_cons_of_mem _ (List.mem_append_left _ (List.mem_append_right _ h))) (by decide +kernel))) (goodIn_sub (fun _ h => List.mem_cons_of_mem _ (List.mem_append_left _ (List.mem_append_left _ (List.mem_append_right _ h)))) (by decide +kernel))
set_option maxRecDepth 20000 in
theorem gL_crosses_X11_line : GoodIn wsL_crosses (wsV RL 41 RX11 yX11_line wsX11_line) := goodIn_app (goodIn_of _ (by decide +kernel)) ggL_crosses_X11_line
set_option maxRecDepth 20000 in
theorem ggL_crosses_X11_part : GoodIn wsL_crosses wsX11_part := goodIn_ca (goodIn_ca (goodIn_ca (goodIn_s _ [309, 167, 168, 18, 22, 14, 177, 178, 179, 17, 180, 181, 195, 196, 3, 197, 198, 199, 174, 175, 176, 169, 170, 171, 172, 173, 310, 311, 312, 21, 313, 314, 315, 316, 317, 318, 319, 58, 59, 60, 320, 321, 322, 323, 79, 82, 324, 325, 326, 81, 327, 328, 94, 95, 329, 191, 192, 193, 13, 194, 61, 330, 331, 332, 333, 86, 334, 335, 336, 337, 338, 339, 275, 276, 277, 67, 68, 340, 341, 342, 343, 91, 344, 345, 346, 347, 92, 348, 279, 280, 33, 281, 282, 263, 264, 265, 72, 204, 205, 283, 267, 268, 269, 73, 284, 251, 252, 253, 349, 350, 351, 352, 353, 354, 355, 85, 356, 357, 358, 102, 103, 106, 359, 360, 361, 362, 363, 101, 364, 365, 366, 367, 368, 369, 370, 371, 372, 373, 374, 375, 104, 376, 105, 107, 377, 378, 379, 380, 381, 382, 383, 384, 385, 386, 387, 388, 389, 390, 391, 392, 393, 394, 395, 396, 397, 398, 399, 400, 93, 401, 402, 403, 404, 405, 406, 407, 732, 733, 734, 735, 736, 737, 738, 739, 745, 746, 747, 748, 749, 750, 751, 769, 770, 771, 772, 773, 774, 775, 740, 741, 742, 743, 744, 760, 761, 776, 777, 778, 779, 780, 781, 782, 783] (by decide +kernel) (by decide +kernel)) (goodIn_sub (fun _ h => List.mem_cons_of_mem _ (List.mem_append_left _ (List.mem_append_left _ (List.mem_append_right _ h)))) (by decide +kernel))) (goodIn_sub (fun _ h => List.mem_cons_of_mem _ (List.mem_append_right _ h)) (by decide +kernel))) (goodIn_sub (fun _ h => List.mem_cons_of_mem _ (List.mem_append_left _ (List.mem_append_right _ h))) (by decide +kernel))
set_option maxRecDepth 20000 in
theorem gL_crosses_X11_part : GoodIn wsL_crosses (wsV RL 52 RX11 yX11_part wsX11_part) := goodIn_app (goodIn_of _ (by decide +kernel)) ggL_crosses_X11_part
set_option maxRecDepth 20000 in
theorem ggL_crosses_L_fault : GoodIn wsL_crosses wsL_fault := goodIn_ca (goodIn_ca (goodIn_s _ [636, 463, 464, 465, 3, 466, 26, 22, 14, 415, 416, 417, 418, 310, 311, 312, 21, 313, 314, 195, 196, 197, 198, 199, 174, 175, 176, 169, 170, 171, 172, 173, 320, 321, 322, 323, 79, 82, 467, 468, 469, 25, 470, 118, 471, 472, 192, 193, 13, 194, 61, 473, 474, 475, 117, 476, 477, 478, 479, 480, 122, 123, 124, 125, 481, 452, 453, 81, 454, 94, 482, 483, 484, 485, 113, 114, 486, 487, 488, 489, 490, 456, 457, 458, 91, 92, 401, 263, 264, 33, 265, 72, 204, 205, 244, 245, 246, 247, 248, 249, 491, 460, 461, 462, 402, 267, 268, 269, 73, 403, 251, 252, 253, 492, 219, 220, 221, 50, 51, 52, 493, 494, 495, 496, 95, 497, 498, 499, 500, 501, 201, 202, 203, 48, 502, 503, 504, 505, 506, 367, 368, 369, 370, 371, 507, 508, 509, 510, 511, 512, 513, 514, 515, 516, 517, 518, 519, 520, 521, 522, 523, 524, 525, 526, 527, 528, 529, 530, 531, 532, 533, 534, 535, 732, 733, 734, 735, 736, 737, 738, 739, 748, 749, 750, 751, 752, 753, 754, 755, 740, 741, 742, 743, 744, 784, 785, 786, 787, 769, 770, 771, 772, 773, 774, 775, 760, 761] (by decide +kernel) (by decide +kernel)) (goodIn_sub (fun _ h => List.mem_cons_of_mem _ (List.mem_append_right _ h)) (by decide +kernel))) (goodIn_sub (fun _ h => List.mem_cons_of_mem _ (List.mem_append_left _ (List.mem_append_right _ h))) (by decide +kernel))
set_option maxRecDepth 20000 in
theorem gL_crosses_L_fault : GoodIn wsL_crosses (va_wsS RL 140 yL_fault wsL_fault) := goodIn_app (goodIn_of _ (by decide +kernel)) ggL_crosses_L_fault
set_option maxRecDepth 20000 in
theorem ggL_crosses_X11_legs : GoodIn wsL_crosses wsX11_legs := goodIn_ca (goodIn_ca (goodIn_s _ [186, 14, 187, 188, 189, 3, 190, 191, 192, 193, 13, 194, 61, 195, 196, 197, 198, 199, 174, 175, 176, 169, 170, 171, 172, 173, 200, 201, 202, 203, 48, 204, 205, 206, 207, 208, 209, 732, 733, 734, 735, 736, 737, 738, 739, 740, 741, 742, 743, 744] (by decide +kernel) (by decide +kernel)) (goodIn_sub (fun _ h => List.mem_cons_of_mem _ (List.mem_append_right _ h)) (by decide +kernel))) (goodIn_sub (fun _ h => List.mem_cons_of_mem _ (List.mem_append_left _ (List.mem_append_right _ h))) (by decide +kernel))
set_option maxRecDepth 20000 in
theorem gL_crosses_X11_legs : GoodIn wsL_crosses (wsV RL 30 RX11 yX11_legs wsX11_legs) := goodIn_app (goodIn_of _ (by decide +kernel)) ggL_crosses_X11_legs
set_option maxRecDepth 20000 in
theorem ggL_crosses_X11_ill : GoodIn wsL_crosses wsX11_ill := goodIn_ca (goodIn_s _ [213, 14, 187, 188, 189, 3, 190, 191, 192, 193, 13, 194, 61, 195, 196, 197, 198, 199, 174, 175, 176, 214, 215, 216, 217, 50, 204, 205, 218, 219, 220, 221, 51, 52, 732, 733, 734, 735, 736, 737, 738, 739, 740, 741, 742, 743, 744] (by decide +kernel) (by decide +kernel)) (goodIn_sub (fun _ h => List.mem_cons_of_mem _ (List.mem_append_right _ h)) (by decide +kernel))
set_option maxRecDepth 20000 in
theorem gL_crosses_X11_ill : GoodIn wsL_crosses (wsV RL 34 RX11 yX11_ill wsX11_ill) := goodIn_app (goodIn_of _ (by decide +kernel)) ggL_crosses_X11_ill
set_option maxRecDepth 20000 in
theorem ggL_crosses_X11_place : GoodIn wsL_crosses wsX11_place := goodIn_ca (goodIn_s _ [433, 22, 415, 416, 417, 3, 418, 310, 311, 312, 21, 313, 314, 195, 196, 197, 198, 199, 174, 175, 176, 187, 188, 189, 190, 14, 191, 192, 193, 13, 194, 61, 320, 321, 322, 323, 79, 82, 434, 435, 436, 81, 437, 93, 204, 205, 732, 733, 734, 735, 736, 737, 738, 739, 748, 749, 750, 751, 740, 741, 742, 743, 744, 769, 770, 771, 772, 773, 774, 775] (by decide +kernel) (by decide +kernel)) (goodIn_sub (fun _ h => List.mem_cons_of_mem _ (List.mem_append_right _ h)) (by decide +kernel))
set_option maxRecDepth 20000 in
theorem gL_crosses_X11_place : GoodIn wsL_crosses (wsV RL 63 RX11 yX11_place wsX11_place) := goodIn_app (goodIn_of _ (by decide +kernel)) ggL_crosses_X11_place
set_option maxRecDepth 20000 in
theorem ggL_crosses_X11_walking : GoodIn wsL_crosses wsX11_walking := goodIn_ca (goodIn_s _ [441, 22, 14, 415, 416, 417, 3, 418, 310, 311, 312, 21, 313, 314, 195, 196, 197, 198, 199, 174, 175, 176, 320, 321, 322, 323, 79, 82, 191, 192, 193, 13, 194, 61, 442, 443, 444, 81, 445, 91, 92, 446, 367, 368, 33, 369, 72, 73, 204, 205, 370, 371, 732, 733, 734, 735, 736, 737, 738, 739, 748, 749, 750, 751, 740, 741, 742, 743, 744, 769, 770, 771, 772, 773, 774, 775, 760, 761] (by decide +kernel) (by decide +kernel)) (goodIn_sub (fun _ h => List.mem_cons_of_mem _ (List.mem_append_right _ h)) (by decide +kernel))
set_option maxRecDepth 20000 in
theorem gL_crosses_X11_walking : GoodIn wsL_crosses (wsV RL 66 RX11 yX11_walking wsX11_walking) := goodIn_app (goodIn_of _ (by decide +kernel)) ggL_crosses_X11_walking
set_option maxRecDepth 20000 in
theorem ggL_crosses_X11_agrees : GoodIn wsL_crosses wsX11_agrees := goodIn_s _ [640, 22, 26, 14, 30, 310, 311, 312, 21, 313, 314, 320, 321, 322, 323, 79, 82, 175, 3, 176, 467, 468, 469, 25, 470, 118, 471, 472, 192, 193, 13, 194, 61, 473, 474, 475, 117, 476, 477, 478, 479, 480, 122, 123, 124, 125, 481, 452, 453, 81, 454, 94, 482, 483, 484, 485, 113, 114, 486, 487, 488, 489, 490, 456, 457, 458, 91, 92, 401, 263, 264, 33, 265, 72, 204, 205, 244, 245, 246, 247, 248, 249, 491, 460, 461, 462, 402, 267, 268, 269, 73, 403, 251, 252, 253, 492, 219, 220, 221, 50, 51, 52, 493, 494, 495, 496, 95, 497, 498, 499, 500, 501, 201, 202, 203, 48, 502, 503, 504, 505, 506, 367, 368, 369, 370, 371, 507, 508, 509, 510, 511, 512, 513, 514, 515, 516, 517, 518, 519, 520, 521, 522, 523, 524, 525, 526, 527, 528, 529, 530, 531, 641, 642, 643, 29, 644, 645, 58, 59, 60, 135, 130, 131, 646, 647, 648, 649, 650, 651, 652, 653, 654, 655, 656, 657, 133, 658, 659, 660, 661, 662, 663, 664, 665, 666, 667, 668, 669, 670, 671, 672, 673, 674, 675, 676, 279, 280, 281, 282, 283, 284, 677, 678, 679, 680, 681, 350, 351, 352, 329, 191, 682, 683, 684, 685, 446, 732, 733, 734, 735, 736, 737, 738, 739, 748, 749, 750, 751, 752, 753, 754, 755, 740, 741, 742, 743, 744, 784, 785, 786, 787, 769, 770, 771, 772, 773, 774, 775, 760, 761, 756, 757, 758, 759] (by decide +kernel) (by decide +kernel)
set_option maxRecDepth 20000 in
theorem gL_crosses_X11_agrees : GoodIn wsL_crosses (wsV RL 134 RX11 yX11_agrees wsX11_agrees) := goodIn_app (goodIn_of _ (by decide +kernel)) ggL_crosses_X11_agrees
set_option maxRecDepth 20000 in
theorem ggL_crosses_X11_phase : GoodIn wsL_crosses wsX11_phase := goodIn_ca (goodIn_ca (goodIn_s _ [539, 22, 34, 14, 415, 416, 417, 3, 418, 310, 311, 312, 21, 313, 314, 195, 196, 197, 198, 199, 174, 175, 176, 320, 321, 322, 323, 79, 82, 451, 452, 453, 81, 454, 94, 169, 170, 171, 172, 173, 191, 192, 193, 13, 194, 61, 540, 487, 488, 489, 490, 456, 457, 458, 91, 92, 401, 263, 264, 33, 265, 72, 204, 205, 244, 245, 246, 247, 248, 249, 491, 460, 461, 462, 402, 267, 268, 269, 73, 403, 251, 252, 253, 541, 542, 543, 544, 545, 58, 59, 60, 546, 428, 429, 218, 219, 220, 221, 50, 51, 52, 547, 548, 549, 370, 371, 550, 551, 552, 553, 732, 733, 734, 735, 736, 737, 738, 739, 748, 749, 750, 751, 769, 770, 771, 772, 773, 774, 775, 740, 741, 742, 743, 744, 760, 761] (by decide +kernel) (by decide +kernel)) (goodIn_sub (fun _ h => List.mem_cons_of_mem _ (List.mem_append_right _ h)) (by decide +kernel))) (goodIn_sub (fun _ h => List.mem_cons_of_mem _ (List.mem_append_left _ (List.mem_append_right _ h))) (by decide +kernel))
set_option maxRecDepth 20000 in
theorem gL_crosses_X11_phase : GoodIn wsL_crosses (wsV RL 76 RX11 yX11_phase wsX11_phase) := goodIn_app (goodIn_of _ (by decide +kernel)) ggL_crosses_X11_phase
set_option maxRecDepth 20000 in
theorem ggL_crosses_L_toss : GoodIn wsL_crosses wsL_toss := goodIn_ca (goodIn_ca (goodIn_ca (goodIn_s _ [688, 154, 155, 156, 689, 690, 691, 3, 692, 167, 168, 22, 14, 545, 58, 59, 60, 693, 694, 695, 415, 416, 417, 418, 310, 311, 312, 21, 313, 314, 195, 196, 197, 198, 199, 174, 175, 176, 187, 188, 189, 190, 191, 192, 193, 13, 194, 61, 320, 321, 322, 323, 79, 82, 451, 452, 453, 81, 454, 94, 169, 170, 171, 172, 173, 218, 219, 220, 221, 50, 51, 52, 204, 205, 455, 456, 457, 458, 91, 92, 401, 263, 264, 33, 265, 72, 244, 245, 246, 247, 248, 249, 459, 460, 461, 462, 402, 267, 268, 269, 73, 732, 733, 734, 735, 736, 737, 738, 739, 748, 749, 750, 751, 740, 741, 742, 743, 744, 769, 770, 771, 772, 773, 774, 775, 760, 761] (by decide +kernel) (by decide +kernel)) (goodIn_sub (fun _ h => List.mem_cons_of_mem _ (List.mem_append_left _ (List.mem_append_left _ (List.mem_append_right _ h)))) (by decide +kernel))) (goodIn_sub (fun _ h => List.mem_cons_of_mem _ (List.mem_append_right _ h)) (by decide +kernel))) (goodIn_sub (fun _ h => List.mem_cons_of_mem _ (List.mem_append_left _ (List.mem_append_right _ h))) (by decide +kernel))
set_option maxRecDepth 20000 in
theorem gL_crosses_L_toss : GoodIn wsL_crosses (va_wsS RL 125 yL_toss wsL_toss) := goodIn_app (goodIn_of _ (by decide +kernel)) ggL_crosses_L_toss
set_option maxRecDepth 20000 in
theorem ggL_crosses_X11_page : GoodIn wsL_crosses wsX11_page := goodIn_ca (goodIn_ca (goodIn_s _ [557, 22, 415, 416, 417, 3, 418, 310, 311, 312, 21, 313, 314, 195, 196, 197, 198, 199, 174, 175, 176, 187, 188, 189, 190, 14, 191, 192, 193, 13, 194, 61, 169, 170, 171, 172, 173, 320, 321, 322, 323, 79, 82, 558, 345, 346, 81, 347, 92, 547, 263, 264, 33, 265, 72, 204, 205, 559, 560, 561, 553, 244, 245, 246, 247, 248, 249, 548, 267, 268, 269, 73, 562, 563, 564, 732, 733, 734, 735, 736, 737, 738, 739, 748, 749, 750, 751, 740, 741, 742, 743, 744, 769, 770, 771, 772, 773, 774, 775, 760, 761] (by decide +kernel) (by decide +kernel)) (goodIn_sub (fun _ h => List.mem_cons_of_mem _ (List.mem_append_right _ h)) (by decide +kernel))) (goodIn_sub (fun _ h => List.mem_cons_of_mem _ (List.mem_append_left _ (List.mem_append_right _ h))) (by decide +kernel))
set_option maxRecDepth 20000 in
theorem gL_crosses_X11_page : GoodIn wsL_crosses (wsV RL 79 RX11 yX11_page wsX11_page) := goodIn_app (goodIn_of _ (by decide +kernel)) ggL_crosses_X11_page
set_option maxRecDepth 20000 in
theorem ggL_crosses_X11_changed : GoodIn wsL_crosses wsX11_changed := goodIn_s _ [699, 38, 22, 14, 191, 192, 193, 13, 194, 61, 700, 701, 702, 37, 703, 704, 705, 58, 59, 60, 706, 428, 429, 707, 311, 312, 21, 313, 314, 708, 709, 710, 711, 141, 142, 175, 3, 176, 712, 321, 322, 323, 79, 82, 713, 345, 346, 81, 347, 92, 714, 367, 368, 33, 369, 72, 73, 204, 205, 370, 371, 732, 733, 734, 735, 736, 737, 738, 739, 740, 741, 742, 743, 744, 762, 763, 764, 748, 749, 750, 751, 769, 770, 771, 772, 773, 774, 775, 760, 761] (by decide +kernel) (by decide +kernel)
set_option maxRecDepth 20000 in
theorem gL_crosses_X11_changed : GoodIn wsL_crosses (wsV RL 118 RX11 yX11_changed wsX11_changed) := goodIn_app (goodIn_of _ (by decide +kernel)) ggL_crosses_X11_changed
set_option maxRecDepth 20000 in
theorem ggL_crosses_X11_publish : GoodIn wsL_crosses wsX11_publish := goodIn_s _ [718, 38, 22, 14, 191, 192, 193, 13, 194, 61, 700, 701, 702, 37, 703, 704, 705, 58, 59, 60, 706, 428, 429, 707, 311, 312, 21, 313, 314, 708, 709, 710, 711, 141, 142, 175, 3, 176, 712, 321, 322, 323, 79, 82, 713, 345, 346, 81, 347, 92, 714, 367, 368, 33, 369, 72, 73, 204, 205, 370, 371, 719, 720, 721, 722, 723, 279, 280, 281, 282, 263, 264, 265, 283, 267, 268, 269, 284, 251, 252, 253, 732, 733, 734, 735, 736, 737, 738, 739, 740, 741, 742, 743, 744, 762, 763, 764, 748, 749, 750, 751, 769, 770, 771, 772, 773, 774, 775, 760, 761] (by decide +kernel) (by decide +kernel)
set_option maxRecDepth 20000 in
theorem gL_crosses_X11_publish : GoodIn wsL_crosses (wsV RL 160 RX11 yX11_publish wsX11_publish) := goodIn_app (goodIn_of _ (by decide +kernel)) ggL_crosses_X11_publish
set_option maxRecDepth 20000 in
theorem ggL_crosses_X11_cut : GoodIn wsL_crosses wsX11_cut := goodIn_ca (goodIn_s _ [422, 167, 168, 22, 310, 311, 312, 21, 313, 314, 423, 424, 425, 426, 427, 428, 59, 429, 732, 733, 734, 735, 736, 737, 738, 739, 748, 749, 750, 751] (by decide +kernel) (by decide +kernel)) (goodIn_sub (fun _ h => List.mem_cons_of_mem _ (List.mem_append_left _ (List.mem_append_left _ (List.mem_append_right _ h)))) (by decide +kernel))
set_option maxRecDepth 20000 in
theorem gL_crosses_X11_cut : GoodIn wsL_crosses (wsV RL 59 RX11 yX11_cut wsX11_cut) := goodIn_app (goodIn_of _ (by decide +kernel)) ggL_crosses_X11_cut
set_option maxRecDepth 20000 in
theorem ggL_crosses_L_refuses : GoodIn wsL_crosses wsL_refuses := goodIn_ca (goodIn_ca (goodIn_ca (goodIn_s _ [726, 727, 158, 157, 159, 728, 729, 730, 3, 731, 22, 585, 586, 587, 21, 588, 314, 334, 321, 322, 323, 79, 82, 175, 176, 589, 590, 591, 81, 592, 94, 95, 244, 245, 246, 247, 248, 249, 696, 697, 698, 699, 38, 14, 191, 192, 193, 13, 194, 61, 700, 701, 702, 37, 703, 704, 705, 58, 59, 60, 706, 428, 429, 707, 311, 312, 313, 708, 709, 710, 711, 141, 142, 712, 713, 345, 346, 347, 92, 714, 367, 368, 33, 369, 72, 73, 204, 205, 370, 371, 150, 151, 152, 153, 154, 155, 156, 160, 161, 162, 163, 164, 165, 166, 167, 168, 18, 169, 170, 171, 172, 173, 174, 177, 178, 179, 17, 180, 181, 182, 54, 55, 56, 57, 48, 50, 51, 52, 183, 184, 185, 186, 187, 188, 189, 190, 195, 196, 197, 198, 199, 200, 201, 202, 203, 206, 207, 208, 209, 210, 211, 212, 213, 214, 215, 216, 217, 218, 219, 220, 221, 222, 223, 224, 225, 226, 227, 228, 229, 230, 231, 232, 233, 234, 235, 236, 237, 238, 239, 240, 241, 242, 243, 68, 250, 251, 252, 253, 254, 255, 256, 257, 258, 259, 260, 261, 262, 263, 264, 265, 266, 267, 268, 269, 270, 271, 272, 273, 274, 275, 276, 277, 67, 278, 279, 280, 281, 282, 283, 284, 285, 286, 287, 288, 289, 290, 291, 292, 293, 294, 295, 296, 297, 298, 299, 300, 301, 302, 303, 304, 305, 306, 307, 308, 309, 310, 315, 316, 317, 318, 319, 320, 324, 325, 326, 327, 328, 329, 330, 331, 332, 333, 86, 335, 336, 337, 338, 339, 340, 341, 342, 343, 91, 344, 348, 349, 350, 351, 352, 353, 354, 355, 85, 356, 357, 358, 102, 103, 106, 359, 360, 361, 362, 363, 101, 364, 365, 366, 372, 373, 374, 375, 104, 376, 105, 107, 377, 378, 379, 380, 381, 382, 383, 384, 385, 386, 387, 388, 389, 390, 391, 392, 393, 394, 395, 396, 397, 398, 399, 400, 93, 401, 402, 403, 404, 405, 406, 407, 408, 409, 410, 411, 412, 413, 414, 415, 416, 417, 418, 419, 420, 421, 422, 423, 424, 425, 426, 427, 430, 431, 432, 433, 434, 435, 436, 437, 438, 439, 440, 441, 442, 443, 444, 445, 446, 447, 448, 449, 450, 451, 452, 453, 454, 455, 456, 457, 458, 459, 460, 461, 462, 463, 464, 465, 466, 26, 467, 468, 469, 25, 470, 118, 471, 472, 473, 474, 475, 117, 476, 477, 478, 479, 480, 122, 123, 124, 125, 481, 482, 483, 484, 485, 113, 114, 486, 487, 488, 489, 490, 491, 492, 493, 494, 495, 496, 497, 498, 499, 500, 501, 502, 503, 504, 505, 506, 507, 508, 509, 510, 511, 512, 513, 514, 515, 516, 517, 518, 519, 520, 521, 522, 523, 524, 525, 526, 527, 528, 529, 530, 531, 532, 533, 534, 535, 536, 537, 538, 539, 34, 540, 541, 542, 543, 544, 545, 546, 547, 548, 549, 550, 551, 552, 553, 554, 555, 556, 557, 558, 559, 560, 561, 562, 563, 564, 565, 566, 567, 568, 569, 570, 571, 42, 572, 573, 574, 41, 575, 576, 149, 577, 578, 579, 580, 581, 582, 583, 584, 147, 593, 594, 595, 596, 148, 597, 598, 599, 600, 601, 602, 603, 604, 605, 606, 607, 608, 609, 610, 611, 612, 613, 614, 615, 616, 617, 618, 619, 620, 621, 622, 623, 624, 625, 626, 627, 628, 629, 630, 631, 632, 633, 686, 687, 688, 689, 690, 691, 692, 693, 694, 695, 732, 733, 734, 735, 736, 737, 738, 739, 748, 749, 750, 751, 769, 770, 771, 772, 773, 774, 775, 740, 741, 742, 743, 744, 762, 763, 764, 760, 761, 745, 746, 747, 776, 777, 778, 779, 780, 781, 782, 783, 752, 753, 754, 755, 784, 785, 786, 787, 765, 766, 767, 768] (by decide +kernel) (by decide +kernel)) (goodIn_sub (fun _ h => List.mem_cons_of_mem _ (List.mem_append_left _ (List.mem_append_left _ (List.mem_append_right _ h)))) (by decide +kernel))) (goodIn_sub (fun _ h => List.mem_cons_of_mem _ (List.mem_append_left _ (List.mem_append_right _ h))) (by decide +kernel))) (goodIn_sub (fun _ h => List.mem_cons_of_mem _ (List.mem_append_right _ h)) (by decide +kernel))
set_option maxRecDepth 20000 in
theorem gL_crosses_L_refuses : GoodIn wsL_crosses (va_wsS RL 130 yL_refuses wsL_refuses) := goodIn_app (goodIn_of _ (by decide +kernel)) ggL_crosses_L_refuses
theorem dL_crosses_0 : decode cL_crosses 0 = .ok (.new 8, 3) := by decide +kernel
theorem dL_crosses_3 : decode cL_crosses 3 = .ok (.dup, 1) := by decide +kernel
theorem dL_crosses_4 : decode cL_crosses 4 = .ok (.invokespecial 129, 3) := by decide +kernel
theorem dL_crosses_7 : decode cL_crosses 7 = .ok (.astore_n 0, 1) := by decide +kernel
theorem dL_crosses_8 : decode cL_crosses 8 = .ok (.aload_n 0, 1) := by decide +kernel
theorem dL_crosses_9 : decode cL_crosses 9 = .ok (.iconst 0, 1) := by decide +kernel
theorem dL_crosses_10 : decode cL_crosses 10 = .ok (.iconst 2, 1) := by decide +kernel
theorem dL_crosses_11 : decode cL_crosses 11 = .ok (.iconst 0, 1) := by decide +kernel
theorem dL_crosses_12 : decode cL_crosses 12 = .ok (.iconst 0, 1) := by decide +kernel
theorem dL_crosses_13 : decode cL_crosses 13 = .ok (.iconst 0, 1) := by decide +kernel
theorem dL_crosses_14 : decode cL_crosses 14 = .ok (.invokestatic 121, 3) := by decide +kernel
theorem dL_crosses_17 : decode cL_crosses 17 = .ok (.lconst 1, 1) := by decide +kernel
theorem dL_crosses_18 : decode cL_crosses 18 = .ok (.lcmp, 1) := by decide +kernel
theorem dL_crosses_19 : decode cL_crosses 19 = .ok (.ifCond .ne 265, 3) := by decide +kernel
theorem dL_crosses_22 : decode cL_crosses 22 = .ok (.aload_n 0, 1) := by decide +kernel
theorem dL_crosses_23 : decode cL_crosses 23 = .ok (.iconst 0, 1) := by decide +kernel
theorem dL_crosses_24 : decode cL_crosses 24 = .ok (.iconst 0, 1) := by decide +kernel
theorem dL_crosses_25 : decode cL_crosses 25 = .ok (.bipush 20, 2) := by decide +kernel
theorem dL_crosses_27 : decode cL_crosses 27 = .ok (.iconst 0, 1) := by decide +kernel
theorem dL_crosses_28 : decode cL_crosses 28 = .ok (.invokevirtual 41, 3) := by decide +kernel
theorem dL_crosses_31 : decode cL_crosses 31 = .ok (.ifCond .ne 253, 3) := by decide +kernel
theorem dL_crosses_34 : decode cL_crosses 34 = .ok (.aload_n 0, 1) := by decide +kernel
theorem dL_crosses_35 : decode cL_crosses 35 = .ok (.bipush 20, 2) := by decide +kernel
theorem dL_crosses_37 : decode cL_crosses 37 = .ok (.bipush 20, 2) := by decide +kernel
theorem dL_crosses_39 : decode cL_crosses 39 = .ok (.iconst 0, 1) := by decide +kernel
theorem dL_crosses_40 : decode cL_crosses 40 = .ok (.bipush 20, 2) := by decide +kernel
theorem dL_crosses_42 : decode cL_crosses 42 = .ok (.invokevirtual 41, 3) := by decide +kernel
theorem dL_crosses_45 : decode cL_crosses 45 = .ok (.iconst 1, 1) := by decide +kernel
theorem dL_crosses_46 : decode cL_crosses 46 = .ok (.if_icmp .ne 238, 3) := by decide +kernel
theorem dL_crosses_49 : decode cL_crosses 49 = .ok (.aload_n 0, 1) := by decide +kernel
theorem dL_crosses_50 : decode cL_crosses 50 = .ok (.iconst 0, 1) := by decide +kernel
theorem dL_crosses_51 : decode cL_crosses 51 = .ok (.iconst 0, 1) := by decide +kernel
theorem dL_crosses_52 : decode cL_crosses 52 = .ok (.bipush 9, 2) := by decide +kernel
theorem dL_crosses_54 : decode cL_crosses 54 = .ok (.iconst 0, 1) := by decide +kernel
theorem dL_crosses_55 : decode cL_crosses 55 = .ok (.invokevirtual 41, 3) := by decide +kernel
theorem dL_crosses_58 : decode cL_crosses 58 = .ok (.iconst 2, 1) := by decide +kernel
theorem dL_crosses_59 : decode cL_crosses 59 = .ok (.if_icmp .ne 225, 3) := by decide +kernel
theorem dL_crosses_62 : decode cL_crosses 62 = .ok (.aload_n 0, 1) := by decide +kernel
theorem dL_crosses_63 : decode cL_crosses 63 = .ok (.bipush 40, 2) := by decide +kernel
theorem dL_crosses_65 : decode cL_crosses 65 = .ok (.sipush 140, 3) := by decide +kernel
theorem dL_crosses_68 : decode cL_crosses 68 = .ok (.bipush 39, 2) := by decide +kernel
theorem dL_crosses_70 : decode cL_crosses 70 = .ok (.sipush 141, 3) := by decide +kernel
theorem dL_crosses_73 : decode cL_crosses 73 = .ok (.invokevirtual 41, 3) := by decide +kernel
theorem dL_crosses_76 : decode cL_crosses 76 = .ok (.iconst 3, 1) := by decide +kernel
theorem dL_crosses_77 : decode cL_crosses 77 = .ok (.if_icmp .ne 207, 3) := by decide +kernel
theorem dL_crosses_80 : decode cL_crosses 80 = .ok (.aload_n 0, 1) := by decide +kernel
theorem dL_crosses_81 : decode cL_crosses 81 = .ok (.iconst 0, 1) := by decide +kernel
theorem dL_crosses_82 : decode cL_crosses 82 = .ok (.bipush 8, 2) := by decide +kernel
theorem dL_crosses_84 : decode cL_crosses 84 = .ok (.bipush 60, 2) := by decide +kernel
theorem dL_crosses_86 : decode cL_crosses 86 = .ok (.iconst 0, 1) := by decide +kernel
theorem dL_crosses_87 : decode cL_crosses 87 = .ok (.invokevirtual 52, 3) := by decide +kernel
theorem dL_crosses_90 : decode cL_crosses 90 = .ok (.ifCond .ne 194, 3) := by decide +kernel
theorem dL_crosses_93 : decode cL_crosses 93 = .ok (.aload_n 0, 1) := by decide +kernel
theorem dL_crosses_94 : decode cL_crosses 94 = .ok (.iconst 1, 1) := by decide +kernel
theorem dL_crosses_95 : decode cL_crosses 95 = .ok (.iconst 1, 1) := by decide +kernel
theorem dL_crosses_96 : decode cL_crosses 96 = .ok (.bipush 60, 2) := by decide +kernel
theorem dL_crosses_98 : decode cL_crosses 98 = .ok (.iconst 0, 1) := by decide +kernel
theorem dL_crosses_99 : decode cL_crosses 99 = .ok (.invokevirtual 52, 3) := by decide +kernel
theorem dL_crosses_102 : decode cL_crosses 102 = .ok (.iconst 1, 1) := by decide +kernel
theorem dL_crosses_103 : decode cL_crosses 103 = .ok (.if_icmp .ne 181, 3) := by decide +kernel
theorem dL_crosses_106 : decode cL_crosses 106 = .ok (.aload_n 0, 1) := by decide +kernel
theorem dL_crosses_107 : decode cL_crosses 107 = .ok (.iconst 1, 1) := by decide +kernel
theorem dL_crosses_108 : decode cL_crosses 108 = .ok (.iconst 1, 1) := by decide +kernel
theorem dL_crosses_109 : decode cL_crosses 109 = .ok (.iconst 0, 1) := by decide +kernel
theorem dL_crosses_110 : decode cL_crosses 110 = .ok (.iconst 0, 1) := by decide +kernel
theorem dL_crosses_111 : decode cL_crosses 111 = .ok (.iconst (-1), 1) := by decide +kernel
theorem dL_crosses_112 : decode cL_crosses 112 = .ok (.invokestatic 140, 3) := by decide +kernel
theorem dL_crosses_115 : decode cL_crosses 115 = .ok (.ifCond .eq 169, 3) := by decide +kernel
theorem dL_crosses_118 : decode cL_crosses 118 = .ok (.aload_n 0, 1) := by decide +kernel
theorem dL_crosses_119 : decode cL_crosses 119 = .ok (.iconst 0, 1) := by decide +kernel
theorem dL_crosses_120 : decode cL_crosses 120 = .ok (.bipush 40, 2) := by decide +kernel
theorem dL_crosses_122 : decode cL_crosses 122 = .ok (.invokevirtual 30, 3) := by decide +kernel
theorem dL_crosses_125 : decode cL_crosses 125 = .ok (.bipush 14, 2) := by decide +kernel
theorem dL_crosses_127 : decode cL_crosses 127 = .ok (.if_icmp .ne 157, 3) := by decide +kernel
theorem dL_crosses_130 : decode cL_crosses 130 = .ok (.aload_n 0, 1) := by decide +kernel
theorem dL_crosses_131 : decode cL_crosses 131 = .ok (.iconst 1, 1) := by decide +kernel
theorem dL_crosses_132 : decode cL_crosses 132 = .ok (.iconst 1, 1) := by decide +kernel
theorem dL_crosses_133 : decode cL_crosses 133 = .ok (.iconst 0, 1) := by decide +kernel
theorem dL_crosses_134 : decode cL_crosses 134 = .ok (.iconst 1, 1) := by decide +kernel
theorem dL_crosses_135 : decode cL_crosses 135 = .ok (.iconst (-1), 1) := by decide +kernel
theorem dL_crosses_136 : decode cL_crosses 136 = .ok (.invokestatic 140, 3) := by decide +kernel
theorem dL_crosses_139 : decode cL_crosses 139 = .ok (.ifCond .eq 145, 3) := by decide +kernel
theorem dL_crosses_142 : decode cL_crosses 142 = .ok (.aload_n 0, 1) := by decide +kernel
theorem dL_crosses_143 : decode cL_crosses 143 = .ok (.iconst 1, 1) := by decide +kernel
theorem dL_crosses_144 : decode cL_crosses 144 = .ok (.bipush 40, 2) := by decide +kernel
theorem dL_crosses_146 : decode cL_crosses 146 = .ok (.invokevirtual 30, 3) := by decide +kernel
theorem dL_crosses_149 : decode cL_crosses 149 = .ok (.bipush 14, 2) := by decide +kernel
theorem dL_crosses_151 : decode cL_crosses 151 = .ok (.if_icmp .ne 133, 3) := by decide +kernel
theorem dL_crosses_154 : decode cL_crosses 154 = .ok (.aload_n 0, 1) := by decide +kernel
theorem dL_crosses_155 : decode cL_crosses 155 = .ok (.iconst 1, 1) := by decide +kernel
theorem dL_crosses_156 : decode cL_crosses 156 = .ok (.iconst 1, 1) := by decide +kernel
theorem dL_crosses_157 : decode cL_crosses 157 = .ok (.iconst 2, 1) := by decide +kernel
theorem dL_crosses_158 : decode cL_crosses 158 = .ok (.iconst 0, 1) := by decide +kernel
theorem dL_crosses_159 : decode cL_crosses 159 = .ok (.iconst 1, 1) := by decide +kernel
theorem dL_crosses_160 : decode cL_crosses 160 = .ok (.invokestatic 140, 3) := by decide +kernel
theorem dL_crosses_163 : decode cL_crosses 163 = .ok (.ifCond .eq 121, 3) := by decide +kernel
theorem dL_crosses_166 : decode cL_crosses 166 = .ok (.aload_n 0, 1) := by decide +kernel
theorem dL_crosses_167 : decode cL_crosses 167 = .ok (.iconst 2, 1) := by decide +kernel
theorem dL_crosses_168 : decode cL_crosses 168 = .ok (.iconst 1, 1) := by decide +kernel
theorem dL_crosses_169 : decode cL_crosses 169 = .ok (.iconst 1, 1) := by decide +kernel
theorem dL_crosses_170 : decode cL_crosses 170 = .ok (.iconst 0, 1) := by decide +kernel
theorem dL_crosses_171 : decode cL_crosses 171 = .ok (.iconst 0, 1) := by decide +kernel
theorem dL_crosses_172 : decode cL_crosses 172 = .ok (.invokestatic 121, 3) := by decide +kernel
theorem dL_crosses_175 : decode cL_crosses 175 = .ok (.lconst 0, 1) := by decide +kernel
theorem dL_crosses_176 : decode cL_crosses 176 = .ok (.lcmp, 1) := by decide +kernel
theorem dL_crosses_177 : decode cL_crosses 177 = .ok (.ifCond .ne 107, 3) := by decide +kernel
theorem dL_crosses_180 : decode cL_crosses 180 = .ok (.aload_n 0, 1) := by decide +kernel
theorem dL_crosses_181 : decode cL_crosses 181 = .ok (.iconst 1, 1) := by decide +kernel
theorem dL_crosses_182 : decode cL_crosses 182 = .ok (.iconst (-1), 1) := by decide +kernel
theorem dL_crosses_183 : decode cL_crosses 183 = .ok (.iconst (-1), 1) := by decide +kernel
theorem dL_crosses_184 : decode cL_crosses 184 = .ok (.iconst (-1), 1) := by decide +kernel
theorem dL_crosses_185 : decode cL_crosses 185 = .ok (.iconst (-1), 1) := by decide +kernel
theorem dL_crosses_186 : decode cL_crosses 186 = .ok (.invokestatic 140, 3) := by decide +kernel
theorem dL_crosses_189 : decode cL_crosses 189 = .ok (.ifCond .eq 95, 3) := by decide +kernel
theorem dL_crosses_192 : decode cL_crosses 192 = .ok (.aload_n 0, 1) := by decide +kernel
theorem dL_crosses_193 : decode cL_crosses 193 = .ok (.iconst 1, 1) := by decide +kernel
theorem dL_crosses_194 : decode cL_crosses 194 = .ok (.iconst 0, 1) := by decide +kernel
theorem dL_crosses_195 : decode cL_crosses 195 = .ok (.invokevirtual 34, 3) := by decide +kernel
theorem dL_crosses_198 : decode cL_crosses 198 = .ok (.ifCond .eq 86, 3) := by decide +kernel
theorem dL_crosses_201 : decode cL_crosses 201 = .ok (.aload_n 0, 1) := by decide +kernel
theorem dL_crosses_202 : decode cL_crosses 202 = .ok (.bipush 8, 2) := by decide +kernel
theorem dL_crosses_204 : decode cL_crosses 204 = .ok (.iconst 1, 1) := by decide +kernel
theorem dL_crosses_205 : decode cL_crosses 205 = .ok (.iconst 1, 1) := by decide +kernel
theorem dL_crosses_206 : decode cL_crosses 206 = .ok (.iconst 1, 1) := by decide +kernel
theorem dL_crosses_207 : decode cL_crosses 207 = .ok (.bipush 60, 2) := by decide +kernel
theorem dL_crosses_209 : decode cL_crosses 209 = .ok (.invokestatic 121, 3) := by decide +kernel
theorem dL_crosses_212 : decode cL_crosses 212 = .ok (.lconst 1, 1) := by decide +kernel
theorem dL_crosses_213 : decode cL_crosses 213 = .ok (.lcmp, 1) := by decide +kernel
theorem dL_crosses_214 : decode cL_crosses 214 = .ok (.ifCond .ne 70, 3) := by decide +kernel
theorem dL_crosses_217 : decode cL_crosses 217 = .ok (.aload_n 0, 1) := by decide +kernel
theorem dL_crosses_218 : decode cL_crosses 218 = .ok (.iconst 1, 1) := by decide +kernel
theorem dL_crosses_219 : decode cL_crosses 219 = .ok (.iconst 0, 1) := by decide +kernel
theorem dL_crosses_220 : decode cL_crosses 220 = .ok (.invokevirtual 63, 3) := by decide +kernel
theorem dL_crosses_223 : decode cL_crosses 223 = .ok (.iconst 1, 1) := by decide +kernel
theorem dL_crosses_224 : decode cL_crosses 224 = .ok (.if_icmp .ne 60, 3) := by decide +kernel
theorem dL_crosses_227 : decode cL_crosses 227 = .ok (.aload_n 0, 1) := by decide +kernel
theorem dL_crosses_228 : decode cL_crosses 228 = .ok (.iconst 1, 1) := by decide +kernel
theorem dL_crosses_229 : decode cL_crosses 229 = .ok (.invokevirtual 66, 3) := by decide +kernel
theorem dL_crosses_232 : decode cL_crosses 232 = .ok (.ldc2_w 158, 3) := by decide +kernel
theorem dL_crosses_235 : decode cL_crosses 235 = .ok (.lcmp, 1) := by decide +kernel
theorem dL_crosses_236 : decode cL_crosses 236 = .ok (.ifCond .ne 48, 3) := by decide +kernel
theorem dL_crosses_239 : decode cL_crosses 239 = .ok (.aload_n 0, 1) := by decide +kernel
theorem dL_crosses_240 : decode cL_crosses 240 = .ok (.iconst 1, 1) := by decide +kernel
theorem dL_crosses_241 : decode cL_crosses 241 = .ok (.iconst (-1), 1) := by decide +kernel
theorem dL_crosses_242 : decode cL_crosses 242 = .ok (.iconst (-1), 1) := by decide +kernel
theorem dL_crosses_243 : decode cL_crosses 243 = .ok (.iconst (-1), 1) := by decide +kernel
theorem dL_crosses_244 : decode cL_crosses 244 = .ok (.iconst (-1), 1) := by decide +kernel
theorem dL_crosses_245 : decode cL_crosses 245 = .ok (.invokestatic 140, 3) := by decide +kernel
theorem dL_crosses_248 : decode cL_crosses 248 = .ok (.ifCond .eq 36, 3) := by decide +kernel
theorem dL_crosses_251 : decode cL_crosses 251 = .ok (.aload_n 0, 1) := by decide +kernel
theorem dL_crosses_252 : decode cL_crosses 252 = .ok (.invokevirtual 134, 3) := by decide +kernel
theorem dL_crosses_255 : decode cL_crosses 255 = .ok (.ifCond .eq 29, 3) := by decide +kernel
theorem dL_crosses_258 : decode cL_crosses 258 = .ok (.aload_n 0, 1) := by decide +kernel
theorem dL_crosses_259 : decode cL_crosses 259 = .ok (.iconst 2, 1) := by decide +kernel
theorem dL_crosses_260 : decode cL_crosses 260 = .ok (.iconst 2, 1) := by decide +kernel
theorem dL_crosses_261 : decode cL_crosses 261 = .ok (.sipush 240, 3) := by decide +kernel
theorem dL_crosses_264 : decode cL_crosses 264 = .ok (.iconst 0, 1) := by decide +kernel
theorem dL_crosses_265 : decode cL_crosses 265 = .ok (.invokevirtual 52, 3) := by decide +kernel
theorem dL_crosses_268 : decode cL_crosses 268 = .ok (.iconst 2, 1) := by decide +kernel
theorem dL_crosses_269 : decode cL_crosses 269 = .ok (.if_icmp .ne 15, 3) := by decide +kernel
theorem dL_crosses_272 : decode cL_crosses 272 = .ok (.aload_n 0, 1) := by decide +kernel
theorem dL_crosses_273 : decode cL_crosses 273 = .ok (.iconst 2, 1) := by decide +kernel
theorem dL_crosses_274 : decode cL_crosses 274 = .ok (.iconst 2, 1) := by decide +kernel
theorem dL_crosses_275 : decode cL_crosses 275 = .ok (.iconst 1, 1) := by decide +kernel
theorem dL_crosses_276 : decode cL_crosses 276 = .ok (.iconst 0, 1) := by decide +kernel
theorem dL_crosses_277 : decode cL_crosses 277 = .ok (.iconst 1, 1) := by decide +kernel
theorem dL_crosses_278 : decode cL_crosses 278 = .ok (.invokestatic 140, 3) := by decide +kernel
theorem dL_crosses_281 : decode cL_crosses 281 = .ok (.ifCond .ne 5, 3) := by decide +kernel
theorem dL_crosses_284 : decode cL_crosses 284 = .ok (.iconst 0, 1) := by decide +kernel
theorem dL_crosses_285 : decode cL_crosses 285 = .ok (.ireturn, 1) := by decide +kernel
theorem dL_crosses_286 : decode cL_crosses 286 = .ok (.new 8, 3) := by decide +kernel
theorem dL_crosses_289 : decode cL_crosses 289 = .ok (.dup, 1) := by decide +kernel
theorem dL_crosses_290 : decode cL_crosses 290 = .ok (.invokespecial 129, 3) := by decide +kernel
theorem dL_crosses_293 : decode cL_crosses 293 = .ok (.astore_n 1, 1) := by decide +kernel
theorem dL_crosses_294 : decode cL_crosses 294 = .ok (.aload_n 1, 1) := by decide +kernel
theorem dL_crosses_295 : decode cL_crosses 295 = .ok (.iconst 0, 1) := by decide +kernel
theorem dL_crosses_296 : decode cL_crosses 296 = .ok (.iconst 2, 1) := by decide +kernel
theorem dL_crosses_297 : decode cL_crosses 297 = .ok (.iconst 0, 1) := by decide +kernel
theorem dL_crosses_298 : decode cL_crosses 298 = .ok (.iconst 0, 1) := by decide +kernel
theorem dL_crosses_299 : decode cL_crosses 299 = .ok (.iconst 0, 1) := by decide +kernel
theorem dL_crosses_300 : decode cL_crosses 300 = .ok (.invokestatic 121, 3) := by decide +kernel
theorem dL_crosses_303 : decode cL_crosses 303 = .ok (.lconst 1, 1) := by decide +kernel
theorem dL_crosses_304 : decode cL_crosses 304 = .ok (.lcmp, 1) := by decide +kernel
theorem dL_crosses_305 : decode cL_crosses 305 = .ok (.ifCond .ne 80, 3) := by decide +kernel
theorem dL_crosses_308 : decode cL_crosses 308 = .ok (.aload_n 1, 1) := by decide +kernel
theorem dL_crosses_309 : decode cL_crosses 309 = .ok (.iconst 0, 1) := by decide +kernel
theorem dL_crosses_310 : decode cL_crosses 310 = .ok (.iconst 0, 1) := by decide +kernel
theorem dL_crosses_311 : decode cL_crosses 311 = .ok (.bipush 9, 2) := by decide +kernel
theorem dL_crosses_313 : decode cL_crosses 313 = .ok (.iconst 0, 1) := by decide +kernel
theorem dL_crosses_314 : decode cL_crosses 314 = .ok (.invokevirtual 41, 3) := by decide +kernel
theorem dL_crosses_317 : decode cL_crosses 317 = .ok (.ifCond .ne 68, 3) := by decide +kernel
theorem dL_crosses_320 : decode cL_crosses 320 = .ok (.aload_n 1, 1) := by decide +kernel
theorem dL_crosses_321 : decode cL_crosses 321 = .ok (.iconst 0, 1) := by decide +kernel
theorem dL_crosses_322 : decode cL_crosses 322 = .ok (.iconst 0, 1) := by decide +kernel
theorem dL_crosses_323 : decode cL_crosses 323 = .ok (.bipush 10, 2) := by decide +kernel
theorem dL_crosses_325 : decode cL_crosses 325 = .ok (.iconst 0, 1) := by decide +kernel
theorem dL_crosses_326 : decode cL_crosses 326 = .ok (.invokevirtual 41, 3) := by decide +kernel
theorem dL_crosses_329 : decode cL_crosses 329 = .ok (.iconst 1, 1) := by decide +kernel
theorem dL_crosses_330 : decode cL_crosses 330 = .ok (.if_icmp .ne 55, 3) := by decide +kernel
theorem dL_crosses_333 : decode cL_crosses 333 = .ok (.aload_n 1, 1) := by decide +kernel
theorem dL_crosses_334 : decode cL_crosses 334 = .ok (.iconst 0, 1) := by decide +kernel
theorem dL_crosses_335 : decode cL_crosses 335 = .ok (.iconst 3, 1) := by decide +kernel
theorem dL_crosses_336 : decode cL_crosses 336 = .ok (.bipush 60, 2) := by decide +kernel
theorem dL_crosses_338 : decode cL_crosses 338 = .ok (.iconst 1, 1) := by decide +kernel
theorem dL_crosses_339 : decode cL_crosses 339 = .ok (.invokevirtual 52, 3) := by decide +kernel
theorem dL_crosses_342 : decode cL_crosses 342 = .ok (.ifCond .ne 43, 3) := by decide +kernel
theorem dL_crosses_345 : decode cL_crosses 345 = .ok (.aload_n 1, 1) := by decide +kernel
theorem dL_crosses_346 : decode cL_crosses 346 = .ok (.iconst 0, 1) := by decide +kernel
theorem dL_crosses_347 : decode cL_crosses 347 = .ok (.iconst 1, 1) := by decide +kernel
theorem dL_crosses_348 : decode cL_crosses 348 = .ok (.iconst 1, 1) := by decide +kernel
theorem dL_crosses_349 : decode cL_crosses 349 = .ok (.iconst 0, 1) := by decide +kernel
theorem dL_crosses_350 : decode cL_crosses 350 = .ok (.iconst 1, 1) := by decide +kernel
theorem dL_crosses_351 : decode cL_crosses 351 = .ok (.invokestatic 140, 3) := by decide +kernel
theorem dL_crosses_354 : decode cL_crosses 354 = .ok (.ifCond .eq 31, 3) := by decide +kernel
theorem dL_crosses_357 : decode cL_crosses 357 = .ok (.aload_n 1, 1) := by decide +kernel
theorem dL_crosses_358 : decode cL_crosses 358 = .ok (.bipush 8, 2) := by decide +kernel
theorem dL_crosses_360 : decode cL_crosses 360 = .ok (.iconst 0, 1) := by decide +kernel
theorem dL_crosses_361 : decode cL_crosses 361 = .ok (.iconst 1, 1) := by decide +kernel
theorem dL_crosses_362 : decode cL_crosses 362 = .ok (.iconst 3, 1) := by decide +kernel
theorem dL_crosses_363 : decode cL_crosses 363 = .ok (.bipush 60, 2) := by decide +kernel
theorem dL_crosses_365 : decode cL_crosses 365 = .ok (.invokestatic 121, 3) := by decide +kernel
theorem dL_crosses_368 : decode cL_crosses 368 = .ok (.lconst 1, 1) := by decide +kernel
theorem dL_crosses_369 : decode cL_crosses 369 = .ok (.lcmp, 1) := by decide +kernel
theorem dL_crosses_370 : decode cL_crosses 370 = .ok (.ifCond .ne 15, 3) := by decide +kernel
theorem dL_crosses_373 : decode cL_crosses 373 = .ok (.aload_n 1, 1) := by decide +kernel
theorem dL_crosses_374 : decode cL_crosses 374 = .ok (.iconst 0, 1) := by decide +kernel
theorem dL_crosses_375 : decode cL_crosses 375 = .ok (.iconst (-1), 1) := by decide +kernel
theorem dL_crosses_376 : decode cL_crosses 376 = .ok (.iconst (-1), 1) := by decide +kernel
theorem dL_crosses_377 : decode cL_crosses 377 = .ok (.iconst (-1), 1) := by decide +kernel
theorem dL_crosses_378 : decode cL_crosses 378 = .ok (.iconst (-1), 1) := by decide +kernel
theorem dL_crosses_379 : decode cL_crosses 379 = .ok (.invokestatic 140, 3) := by decide +kernel
theorem dL_crosses_382 : decode cL_crosses 382 = .ok (.ifCond .ne 5, 3) := by decide +kernel
theorem dL_crosses_385 : decode cL_crosses 385 = .ok (.iconst 0, 1) := by decide +kernel
theorem dL_crosses_386 : decode cL_crosses 386 = .ok (.ireturn, 1) := by decide +kernel
theorem dL_crosses_387 : decode cL_crosses 387 = .ok (.aload_n 0, 1) := by decide +kernel
theorem dL_crosses_388 : decode cL_crosses 388 = .ok (.iconst 0, 1) := by decide +kernel
theorem dL_crosses_389 : decode cL_crosses 389 = .ok (.iconst 0, 1) := by decide +kernel
theorem dL_crosses_390 : decode cL_crosses 390 = .ok (.iconst 0, 1) := by decide +kernel
theorem dL_crosses_391 : decode cL_crosses 391 = .ok (.bipush (-6), 2) := by decide +kernel
theorem dL_crosses_393 : decode cL_crosses 393 = .ok (.invokevirtual 76, 3) := by decide +kernel
theorem dL_crosses_396 : decode cL_crosses 396 = .ok (.iconst 2, 1) := by decide +kernel
theorem dL_crosses_397 : decode cL_crosses 397 = .ok (.if_icmp .ne 121, 3) := by decide +kernel
theorem dL_crosses_400 : decode cL_crosses 400 = .ok (.aload_n 0, 1) := by decide +kernel
theorem dL_crosses_401 : decode cL_crosses 401 = .ok (.iconst 0, 1) := by decide +kernel
theorem dL_crosses_402 : decode cL_crosses 402 = .ok (.bipush 8, 2) := by decide +kernel
theorem dL_crosses_404 : decode cL_crosses 404 = .ok (.bipush 20, 2) := by decide +kernel
theorem dL_crosses_406 : decode cL_crosses 406 = .ok (.bipush (-6), 2) := by decide +kernel
theorem dL_crosses_408 : decode cL_crosses 408 = .ok (.invokevirtual 76, 3) := by decide +kernel
theorem dL_crosses_411 : decode cL_crosses 411 = .ok (.iconst 2, 1) := by decide +kernel
theorem dL_crosses_412 : decode cL_crosses 412 = .ok (.if_icmp .ne 106, 3) := by decide +kernel
theorem dL_crosses_415 : decode cL_crosses 415 = .ok (.aload_n 0, 1) := by decide +kernel
theorem dL_crosses_416 : decode cL_crosses 416 = .ok (.iconst 0, 1) := by decide +kernel
theorem dL_crosses_417 : decode cL_crosses 417 = .ok (.iconst 3, 1) := by decide +kernel
theorem dL_crosses_418 : decode cL_crosses 418 = .ok (.bipush 10, 2) := by decide +kernel
theorem dL_crosses_420 : decode cL_crosses 420 = .ok (.bipush (-50), 2) := by decide +kernel
theorem dL_crosses_422 : decode cL_crosses 422 = .ok (.invokevirtual 76, 3) := by decide +kernel
theorem dL_crosses_425 : decode cL_crosses 425 = .ok (.ifCond .ne 93, 3) := by decide +kernel
theorem dL_crosses_428 : decode cL_crosses 428 = .ok (.aload_n 0, 1) := by decide +kernel
theorem dL_crosses_429 : decode cL_crosses 429 = .ok (.iconst 0, 1) := by decide +kernel
theorem dL_crosses_430 : decode cL_crosses 430 = .ok (.iconst 0, 1) := by decide +kernel
theorem dL_crosses_431 : decode cL_crosses 431 = .ok (.sipush 1600, 3) := by decide +kernel
theorem dL_crosses_434 : decode cL_crosses 434 = .ok (.sipush (-1000), 3) := by decide +kernel
theorem dL_crosses_437 : decode cL_crosses 437 = .ok (.invokevirtual 76, 3) := by decide +kernel
theorem dL_crosses_440 : decode cL_crosses 440 = .ok (.iconst 3, 1) := by decide +kernel
theorem dL_crosses_441 : decode cL_crosses 441 = .ok (.if_icmp .ne 77, 3) := by decide +kernel
theorem dL_crosses_444 : decode cL_crosses 444 = .ok (.aload_n 0, 1) := by decide +kernel
theorem dL_crosses_445 : decode cL_crosses 445 = .ok (.iconst 0, 1) := by decide +kernel
theorem dL_crosses_446 : decode cL_crosses 446 = .ok (.iconst 1, 1) := by decide +kernel
theorem dL_crosses_447 : decode cL_crosses 447 = .ok (.invokevirtual 34, 3) := by decide +kernel
theorem dL_crosses_450 : decode cL_crosses 450 = .ok (.ifCond .ne 68, 3) := by decide +kernel
theorem dL_crosses_453 : decode cL_crosses 453 = .ok (.aload_n 0, 1) := by decide +kernel
theorem dL_crosses_454 : decode cL_crosses 454 = .ok (.iconst 0, 1) := by decide +kernel
theorem dL_crosses_455 : decode cL_crosses 455 = .ok (.iconst 0, 1) := by decide +kernel
theorem dL_crosses_456 : decode cL_crosses 456 = .ok (.iconst 0, 1) := by decide +kernel
theorem dL_crosses_457 : decode cL_crosses 457 = .ok (.bipush (-6), 2) := by decide +kernel
theorem dL_crosses_459 : decode cL_crosses 459 = .ok (.invokevirtual 76, 3) := by decide +kernel
theorem dL_crosses_462 : decode cL_crosses 462 = .ok (.ifCond .ne 56, 3) := by decide +kernel
theorem dL_crosses_465 : decode cL_crosses 465 = .ok (.aload_n 0, 1) := by decide +kernel
theorem dL_crosses_466 : decode cL_crosses 466 = .ok (.iconst 1, 1) := by decide +kernel
theorem dL_crosses_467 : decode cL_crosses 467 = .ok (.iconst 1, 1) := by decide +kernel
theorem dL_crosses_468 : decode cL_crosses 468 = .ok (.invokevirtual 34, 3) := by decide +kernel
theorem dL_crosses_471 : decode cL_crosses 471 = .ok (.ifCond .ne 47, 3) := by decide +kernel
theorem dL_crosses_474 : decode cL_crosses 474 = .ok (.aload_n 0, 1) := by decide +kernel
theorem dL_crosses_475 : decode cL_crosses 475 = .ok (.iconst 0, 1) := by decide +kernel
theorem dL_crosses_476 : decode cL_crosses 476 = .ok (.iconst 0, 1) := by decide +kernel
theorem dL_crosses_477 : decode cL_crosses 477 = .ok (.iconst 0, 1) := by decide +kernel
theorem dL_crosses_478 : decode cL_crosses 478 = .ok (.bipush (-6), 2) := by decide +kernel
theorem dL_crosses_480 : decode cL_crosses 480 = .ok (.invokevirtual 76, 3) := by decide +kernel
theorem dL_crosses_483 : decode cL_crosses 483 = .ok (.ifCond .ne 35, 3) := by decide +kernel
theorem dL_crosses_486 : decode cL_crosses 486 = .ok (.aload_n 0, 1) := by decide +kernel
theorem dL_crosses_487 : decode cL_crosses 487 = .ok (.iconst 0, 1) := by decide +kernel
theorem dL_crosses_488 : decode cL_crosses 488 = .ok (.iconst 0, 1) := by decide +kernel
theorem dL_crosses_489 : decode cL_crosses 489 = .ok (.iconst 0, 1) := by decide +kernel
theorem dL_crosses_490 : decode cL_crosses 490 = .ok (.iconst 1, 1) := by decide +kernel
theorem dL_crosses_491 : decode cL_crosses 491 = .ok (.iconst 0, 1) := by decide +kernel
theorem dL_crosses_492 : decode cL_crosses 492 = .ok (.invokestatic 125, 3) := by decide +kernel
theorem dL_crosses_495 : decode cL_crosses 495 = .ok (.bipush (-73), 2) := by decide +kernel
theorem dL_crosses_497 : decode cL_crosses 497 = .ok (.if_icmp .ne 21, 3) := by decide +kernel
theorem dL_crosses_500 : decode cL_crosses 500 = .ok (.aload_n 0, 1) := by decide +kernel
theorem dL_crosses_501 : decode cL_crosses 501 = .ok (.iconst 0, 1) := by decide +kernel
theorem dL_crosses_502 : decode cL_crosses 502 = .ok (.iconst 0, 1) := by decide +kernel
theorem dL_crosses_503 : decode cL_crosses 503 = .ok (.invokevirtual 34, 3) := by decide +kernel
theorem dL_crosses_506 : decode cL_crosses 506 = .ok (.ifCond .eq 12, 3) := by decide +kernel
theorem dL_crosses_509 : decode cL_crosses 509 = .ok (.aload_n 0, 1) := by decide +kernel
theorem dL_crosses_510 : decode cL_crosses 510 = .ok (.iconst 1, 1) := by decide +kernel
theorem dL_crosses_511 : decode cL_crosses 511 = .ok (.iconst 0, 1) := by decide +kernel
theorem dL_crosses_512 : decode cL_crosses 512 = .ok (.invokevirtual 34, 3) := by decide +kernel
theorem dL_crosses_515 : decode cL_crosses 515 = .ok (.ifCond .ne 5, 3) := by decide +kernel
theorem dL_crosses_518 : decode cL_crosses 518 = .ok (.iconst 0, 1) := by decide +kernel
theorem dL_crosses_519 : decode cL_crosses 519 = .ok (.ireturn, 1) := by decide +kernel
theorem dL_crosses_520 : decode cL_crosses 520 = .ok (.aload_n 0, 1) := by decide +kernel
theorem dL_crosses_521 : decode cL_crosses 521 = .ok (.iconst 0, 1) := by decide +kernel
theorem dL_crosses_522 : decode cL_crosses 522 = .ok (.iconst 0, 1) := by decide +kernel
theorem dL_crosses_523 : decode cL_crosses 523 = .ok (.iconst 0, 1) := by decide +kernel
theorem dL_crosses_524 : decode cL_crosses 524 = .ok (.bipush 9, 2) := by decide +kernel
theorem dL_crosses_526 : decode cL_crosses 526 = .ok (.iconst 1, 1) := by decide +kernel
theorem dL_crosses_527 : decode cL_crosses 527 = .ok (.invokestatic 125, 3) := by decide +kernel
theorem dL_crosses_530 : decode cL_crosses 530 = .ok (.iconst 1, 1) := by decide +kernel
theorem dL_crosses_531 : decode cL_crosses 531 = .ok (.if_icmp .ne 204, 3) := by decide +kernel
theorem dL_crosses_534 : decode cL_crosses 534 = .ok (.aload_n 0, 1) := by decide +kernel
theorem dL_crosses_535 : decode cL_crosses 535 = .ok (.iconst 0, 1) := by decide +kernel
theorem dL_crosses_536 : decode cL_crosses 536 = .ok (.iconst 0, 1) := by decide +kernel
theorem dL_crosses_537 : decode cL_crosses 537 = .ok (.iconst 0, 1) := by decide +kernel
theorem dL_crosses_538 : decode cL_crosses 538 = .ok (.bipush 9, 2) := by decide +kernel
theorem dL_crosses_540 : decode cL_crosses 540 = .ok (.iconst 2, 1) := by decide +kernel
theorem dL_crosses_541 : decode cL_crosses 541 = .ok (.invokestatic 125, 3) := by decide +kernel
theorem dL_crosses_544 : decode cL_crosses 544 = .ok (.ifCond .ne 191, 3) := by decide +kernel
theorem dL_crosses_547 : decode cL_crosses 547 = .ok (.aload_n 0, 1) := by decide +kernel
theorem dL_crosses_548 : decode cL_crosses 548 = .ok (.iconst 0, 1) := by decide +kernel
theorem dL_crosses_549 : decode cL_crosses 549 = .ok (.bipush 8, 2) := by decide +kernel
theorem dL_crosses_551 : decode cL_crosses 551 = .ok (.iconst 0, 1) := by decide +kernel
theorem dL_crosses_552 : decode cL_crosses 552 = .ok (.iconst 5, 1) := by decide +kernel
theorem dL_crosses_553 : decode cL_crosses 553 = .ok (.bipush (-2), 2) := by decide +kernel
theorem dL_crosses_555 : decode cL_crosses 555 = .ok (.invokestatic 125, 3) := by decide +kernel
theorem dL_crosses_558 : decode cL_crosses 558 = .ok (.iconst 1, 1) := by decide +kernel
theorem dL_crosses_559 : decode cL_crosses 559 = .ok (.if_icmp .ne 176, 3) := by decide +kernel
theorem dL_crosses_562 : decode cL_crosses 562 = .ok (.aload_n 0, 1) := by decide +kernel
theorem dL_crosses_563 : decode cL_crosses 563 = .ok (.iconst 0, 1) := by decide +kernel
theorem dL_crosses_564 : decode cL_crosses 564 = .ok (.bipush 8, 2) := by decide +kernel
theorem dL_crosses_566 : decode cL_crosses 566 = .ok (.iconst 0, 1) := by decide +kernel
theorem dL_crosses_567 : decode cL_crosses 567 = .ok (.iconst 5, 1) := by decide +kernel
theorem dL_crosses_568 : decode cL_crosses 568 = .ok (.bipush (-3), 2) := by decide +kernel
theorem dL_crosses_570 : decode cL_crosses 570 = .ok (.invokestatic 125, 3) := by decide +kernel
theorem dL_crosses_573 : decode cL_crosses 573 = .ok (.ifCond .ne 162, 3) := by decide +kernel
theorem dL_crosses_576 : decode cL_crosses 576 = .ok (.aload_n 0, 1) := by decide +kernel
theorem dL_crosses_577 : decode cL_crosses 577 = .ok (.iconst 1, 1) := by decide +kernel
theorem dL_crosses_578 : decode cL_crosses 578 = .ok (.iconst 0, 1) := by decide +kernel
theorem dL_crosses_579 : decode cL_crosses 579 = .ok (.iconst 0, 1) := by decide +kernel
theorem dL_crosses_580 : decode cL_crosses 580 = .ok (.iconst 1, 1) := by decide +kernel
theorem dL_crosses_581 : decode cL_crosses 581 = .ok (.iconst 0, 1) := by decide +kernel
theorem dL_crosses_582 : decode cL_crosses 582 = .ok (.invokestatic 125, 3) := by decide +kernel
theorem dL_crosses_585 : decode cL_crosses 585 = .ok (.ifCond .ne 150, 3) := by decide +kernel
theorem dL_crosses_588 : decode cL_crosses 588 = .ok (.aload_n 0, 1) := by decide +kernel
theorem dL_crosses_589 : decode cL_crosses 589 = .ok (.iconst 0, 1) := by decide +kernel
theorem dL_crosses_590 : decode cL_crosses 590 = .ok (.iconst 1, 1) := by decide +kernel
theorem dL_crosses_591 : decode cL_crosses 591 = .ok (.iconst 0, 1) := by decide +kernel
theorem dL_crosses_592 : decode cL_crosses 592 = .ok (.invokevirtual 79, 3) := by decide +kernel
theorem dL_crosses_595 : decode cL_crosses 595 = .ok (.ifCond .ne 140, 3) := by decide +kernel
theorem dL_crosses_598 : decode cL_crosses 598 = .ok (.aload_n 0, 1) := by decide +kernel
theorem dL_crosses_599 : decode cL_crosses 599 = .ok (.iconst 0, 1) := by decide +kernel
theorem dL_crosses_600 : decode cL_crosses 600 = .ok (.iconst 1, 1) := by decide +kernel
theorem dL_crosses_601 : decode cL_crosses 601 = .ok (.iconst 1, 1) := by decide +kernel
theorem dL_crosses_602 : decode cL_crosses 602 = .ok (.invokevirtual 79, 3) := by decide +kernel
theorem dL_crosses_605 : decode cL_crosses 605 = .ok (.bipush 20, 2) := by decide +kernel
theorem dL_crosses_607 : decode cL_crosses 607 = .ok (.if_icmp .ne 128, 3) := by decide +kernel
theorem dL_crosses_610 : decode cL_crosses 610 = .ok (.aload_n 0, 1) := by decide +kernel
theorem dL_crosses_611 : decode cL_crosses 611 = .ok (.iconst 0, 1) := by decide +kernel
theorem dL_crosses_612 : decode cL_crosses 612 = .ok (.iconst 1, 1) := by decide +kernel
theorem dL_crosses_613 : decode cL_crosses 613 = .ok (.iconst 2, 1) := by decide +kernel
theorem dL_crosses_614 : decode cL_crosses 614 = .ok (.invokevirtual 79, 3) := by decide +kernel
theorem dL_crosses_617 : decode cL_crosses 617 = .ok (.ifCond .ne 118, 3) := by decide +kernel
theorem dL_crosses_620 : decode cL_crosses 620 = .ok (.aload_n 0, 1) := by decide +kernel
theorem dL_crosses_621 : decode cL_crosses 621 = .ok (.iconst 0, 1) := by decide +kernel
theorem dL_crosses_622 : decode cL_crosses 622 = .ok (.iconst 1, 1) := by decide +kernel
theorem dL_crosses_623 : decode cL_crosses 623 = .ok (.iconst 3, 1) := by decide +kernel
theorem dL_crosses_624 : decode cL_crosses 624 = .ok (.invokevirtual 79, 3) := by decide +kernel
theorem dL_crosses_627 : decode cL_crosses 627 = .ok (.ifCond .ne 108, 3) := by decide +kernel
theorem dL_crosses_630 : decode cL_crosses 630 = .ok (.aload_n 0, 1) := by decide +kernel
theorem dL_crosses_631 : decode cL_crosses 631 = .ok (.iconst 3, 1) := by decide +kernel
theorem dL_crosses_632 : decode cL_crosses 632 = .ok (.iconst 5, 1) := by decide +kernel
theorem dL_crosses_633 : decode cL_crosses 633 = .ok (.bipush 100, 2) := by decide +kernel
theorem dL_crosses_635 : decode cL_crosses 635 = .ok (.iconst 0, 1) := by decide +kernel
theorem dL_crosses_636 : decode cL_crosses 636 = .ok (.invokevirtual 52, 3) := by decide +kernel
theorem dL_crosses_639 : decode cL_crosses 639 = .ok (.iconst 3, 1) := by decide +kernel
theorem dL_crosses_640 : decode cL_crosses 640 = .ok (.if_icmp .ne 95, 3) := by decide +kernel
theorem dL_crosses_643 : decode cL_crosses 643 = .ok (.aload_n 0, 1) := by decide +kernel
theorem dL_crosses_644 : decode cL_crosses 644 = .ok (.iconst 3, 1) := by decide +kernel
theorem dL_crosses_645 : decode cL_crosses 645 = .ok (.iconst 0, 1) := by decide +kernel
theorem dL_crosses_646 : decode cL_crosses 646 = .ok (.iconst 0, 1) := by decide +kernel
theorem dL_crosses_647 : decode cL_crosses 647 = .ok (.invokevirtual 79, 3) := by decide +kernel
theorem dL_crosses_650 : decode cL_crosses 650 = .ok (.iconst 1, 1) := by decide +kernel
theorem dL_crosses_651 : decode cL_crosses 651 = .ok (.if_icmp .ne 84, 3) := by decide +kernel
theorem dL_crosses_654 : decode cL_crosses 654 = .ok (.aload_n 0, 1) := by decide +kernel
theorem dL_crosses_655 : decode cL_crosses 655 = .ok (.iconst 3, 1) := by decide +kernel
theorem dL_crosses_656 : decode cL_crosses 656 = .ok (.iconst 0, 1) := by decide +kernel
theorem dL_crosses_657 : decode cL_crosses 657 = .ok (.iconst 1, 1) := by decide +kernel
theorem dL_crosses_658 : decode cL_crosses 658 = .ok (.invokevirtual 79, 3) := by decide +kernel
theorem dL_crosses_661 : decode cL_crosses 661 = .ok (.bipush (-40), 2) := by decide +kernel
theorem dL_crosses_663 : decode cL_crosses 663 = .ok (.if_icmp .ne 72, 3) := by decide +kernel
theorem dL_crosses_666 : decode cL_crosses 666 = .ok (.aload_n 0, 1) := by decide +kernel
theorem dL_crosses_667 : decode cL_crosses 667 = .ok (.iconst 3, 1) := by decide +kernel
theorem dL_crosses_668 : decode cL_crosses 668 = .ok (.iconst 0, 1) := by decide +kernel
theorem dL_crosses_669 : decode cL_crosses 669 = .ok (.iconst 2, 1) := by decide +kernel
theorem dL_crosses_670 : decode cL_crosses 670 = .ok (.invokevirtual 79, 3) := by decide +kernel
theorem dL_crosses_673 : decode cL_crosses 673 = .ok (.ifCond .ne 62, 3) := by decide +kernel
theorem dL_crosses_676 : decode cL_crosses 676 = .ok (.aload_n 0, 1) := by decide +kernel
theorem dL_crosses_677 : decode cL_crosses 677 = .ok (.iconst 3, 1) := by decide +kernel
theorem dL_crosses_678 : decode cL_crosses 678 = .ok (.iconst 0, 1) := by decide +kernel
theorem dL_crosses_679 : decode cL_crosses 679 = .ok (.iconst 3, 1) := by decide +kernel
theorem dL_crosses_680 : decode cL_crosses 680 = .ok (.invokevirtual 79, 3) := by decide +kernel
theorem dL_crosses_683 : decode cL_crosses 683 = .ok (.sipush 140, 3) := by decide +kernel
theorem dL_crosses_686 : decode cL_crosses 686 = .ok (.if_icmp .ne 49, 3) := by decide +kernel
theorem dL_crosses_689 : decode cL_crosses 689 = .ok (.aload_n 0, 1) := by decide +kernel
theorem dL_crosses_690 : decode cL_crosses 690 = .ok (.iconst 3, 1) := by decide +kernel
theorem dL_crosses_691 : decode cL_crosses 691 = .ok (.iconst 1, 1) := by decide +kernel
theorem dL_crosses_692 : decode cL_crosses 692 = .ok (.iconst 0, 1) := by decide +kernel
theorem dL_crosses_693 : decode cL_crosses 693 = .ok (.invokevirtual 79, 3) := by decide +kernel
theorem dL_crosses_696 : decode cL_crosses 696 = .ok (.ifCond .ne 39, 3) := by decide +kernel
theorem dL_crosses_699 : decode cL_crosses 699 = .ok (.aload_n 0, 1) := by decide +kernel
theorem dL_crosses_700 : decode cL_crosses 700 = .ok (.iconst 3, 1) := by decide +kernel
theorem dL_crosses_701 : decode cL_crosses 701 = .ok (.iconst 1, 1) := by decide +kernel
theorem dL_crosses_702 : decode cL_crosses 702 = .ok (.iconst 1, 1) := by decide +kernel
theorem dL_crosses_703 : decode cL_crosses 703 = .ok (.invokevirtual 79, 3) := by decide +kernel
theorem dL_crosses_706 : decode cL_crosses 706 = .ok (.bipush 39, 2) := by decide +kernel
theorem dL_crosses_708 : decode cL_crosses 708 = .ok (.if_icmp .ne 27, 3) := by decide +kernel
theorem dL_crosses_711 : decode cL_crosses 711 = .ok (.aload_n 0, 1) := by decide +kernel
theorem dL_crosses_712 : decode cL_crosses 712 = .ok (.iconst 3, 1) := by decide +kernel
theorem dL_crosses_713 : decode cL_crosses 713 = .ok (.iconst 1, 1) := by decide +kernel
theorem dL_crosses_714 : decode cL_crosses 714 = .ok (.iconst 2, 1) := by decide +kernel
theorem dL_crosses_715 : decode cL_crosses 715 = .ok (.invokevirtual 79, 3) := by decide +kernel
theorem dL_crosses_718 : decode cL_crosses 718 = .ok (.iconst 1, 1) := by decide +kernel
theorem dL_crosses_719 : decode cL_crosses 719 = .ok (.if_icmp .ne 16, 3) := by decide +kernel
theorem dL_crosses_722 : decode cL_crosses 722 = .ok (.aload_n 0, 1) := by decide +kernel
theorem dL_crosses_723 : decode cL_crosses 723 = .ok (.iconst 3, 1) := by decide +kernel
theorem dL_crosses_724 : decode cL_crosses 724 = .ok (.iconst 1, 1) := by decide +kernel
theorem dL_crosses_725 : decode cL_crosses 725 = .ok (.iconst 3, 1) := by decide +kernel
theorem dL_crosses_726 : decode cL_crosses 726 = .ok (.invokevirtual 79, 3) := by decide +kernel
theorem dL_crosses_729 : decode cL_crosses 729 = .ok (.sipush (-139), 3) := by decide +kernel
theorem dL_crosses_732 : decode cL_crosses 732 = .ok (.if_icmp .eq 5, 3) := by decide +kernel
theorem dL_crosses_735 : decode cL_crosses 735 = .ok (.iconst 0, 1) := by decide +kernel
theorem dL_crosses_736 : decode cL_crosses 736 = .ok (.ireturn, 1) := by decide +kernel
theorem dL_crosses_737 : decode cL_crosses 737 = .ok (.aload_n 0, 1) := by decide +kernel
theorem dL_crosses_738 : decode cL_crosses 738 = .ok (.invokevirtual 118, 3) := by decide +kernel
theorem dL_crosses_741 : decode cL_crosses 741 = .ok (.bipush 8, 2) := by decide +kernel
theorem dL_crosses_743 : decode cL_crosses 743 = .ok (.if_icmp .ne 162, 3) := by decide +kernel
theorem dL_crosses_746 : decode cL_crosses 746 = .ok (.aload_n 0, 1) := by decide +kernel
theorem dL_crosses_747 : decode cL_crosses 747 = .ok (.invokevirtual 160, 3) := by decide +kernel
theorem dL_crosses_750 : decode cL_crosses 750 = .ok (.bipush 8, 2) := by decide +kernel
theorem dL_crosses_752 : decode cL_crosses 752 = .ok (.if_icmp .ne 153, 3) := by decide +kernel
theorem dL_crosses_755 : decode cL_crosses 755 = .ok (.aload_n 0, 1) := by decide +kernel
theorem dL_crosses_756 : decode cL_crosses 756 = .ok (.invokevirtual 118, 3) := by decide +kernel
theorem dL_crosses_759 : decode cL_crosses 759 = .ok (.ifCond .ne 146, 3) := by decide +kernel
theorem dL_crosses_762 : decode cL_crosses 762 = .ok (.aload_n 0, 1) := by decide +kernel
theorem dL_crosses_763 : decode cL_crosses 763 = .ok (.invokevirtual 160, 3) := by decide +kernel
theorem dL_crosses_766 : decode cL_crosses 766 = .ok (.ifCond .ne 139, 3) := by decide +kernel
theorem dL_crosses_769 : decode cL_crosses 769 = .ok (.aload_n 0, 1) := by decide +kernel
theorem dL_crosses_770 : decode cL_crosses 770 = .ok (.bipush 8, 2) := by decide +kernel
theorem dL_crosses_772 : decode cL_crosses 772 = .ok (.iconst 3, 1) := by decide +kernel
theorem dL_crosses_773 : decode cL_crosses 773 = .ok (.iconst 2, 1) := by decide +kernel
theorem dL_crosses_774 : decode cL_crosses 774 = .ok (.iconst 5, 1) := by decide +kernel
theorem dL_crosses_775 : decode cL_crosses 775 = .ok (.bipush 100, 2) := by decide +kernel
theorem dL_crosses_777 : decode cL_crosses 777 = .ok (.invokestatic 121, 3) := by decide +kernel
theorem dL_crosses_780 : decode cL_crosses 780 = .ok (.lconst 1, 1) := by decide +kernel
theorem dL_crosses_781 : decode cL_crosses 781 = .ok (.lcmp, 1) := by decide +kernel
theorem dL_crosses_782 : decode cL_crosses 782 = .ok (.ifCond .ne 123, 3) := by decide +kernel
theorem dL_crosses_785 : decode cL_crosses 785 = .ok (.aload_n 0, 1) := by decide +kernel
theorem dL_crosses_786 : decode cL_crosses 786 = .ok (.invokevirtual 118, 3) := by decide +kernel
theorem dL_crosses_789 : decode cL_crosses 789 = .ok (.iconst 2, 1) := by decide +kernel
theorem dL_crosses_790 : decode cL_crosses 790 = .ok (.if_icmp .ne 115, 3) := by decide +kernel
theorem dL_crosses_793 : decode cL_crosses 793 = .ok (.aload_n 0, 1) := by decide +kernel
theorem dL_crosses_794 : decode cL_crosses 794 = .ok (.bipush 8, 2) := by decide +kernel
theorem dL_crosses_796 : decode cL_crosses 796 = .ok (.iconst 3, 1) := by decide +kernel
theorem dL_crosses_797 : decode cL_crosses 797 = .ok (.iconst 3, 1) := by decide +kernel
theorem dL_crosses_798 : decode cL_crosses 798 = .ok (.bipush 7, 2) := by decide +kernel
theorem dL_crosses_800 : decode cL_crosses 800 = .ok (.bipush 70, 2) := by decide +kernel
theorem dL_crosses_802 : decode cL_crosses 802 = .ok (.invokestatic 121, 3) := by decide +kernel
theorem dL_crosses_805 : decode cL_crosses 805 = .ok (.lconst 1, 1) := by decide +kernel
theorem dL_crosses_806 : decode cL_crosses 806 = .ok (.lcmp, 1) := by decide +kernel
theorem dL_crosses_807 : decode cL_crosses 807 = .ok (.ifCond .ne 98, 3) := by decide +kernel
theorem dL_crosses_810 : decode cL_crosses 810 = .ok (.aload_n 0, 1) := by decide +kernel
theorem dL_crosses_811 : decode cL_crosses 811 = .ok (.iconst 3, 1) := by decide +kernel
theorem dL_crosses_812 : decode cL_crosses 812 = .ok (.iconst 0, 1) := by decide +kernel
theorem dL_crosses_813 : decode cL_crosses 813 = .ok (.iconst 0, 1) := by decide +kernel
theorem dL_crosses_814 : decode cL_crosses 814 = .ok (.invokevirtual 79, 3) := by decide +kernel
theorem dL_crosses_817 : decode cL_crosses 817 = .ok (.ifCond .ne 88, 3) := by decide +kernel
theorem dL_crosses_820 : decode cL_crosses 820 = .ok (.aload_n 0, 1) := by decide +kernel
theorem dL_crosses_821 : decode cL_crosses 821 = .ok (.iconst 3, 1) := by decide +kernel
theorem dL_crosses_822 : decode cL_crosses 822 = .ok (.iconst 0, 1) := by decide +kernel
theorem dL_crosses_823 : decode cL_crosses 823 = .ok (.invokevirtual 63, 3) := by decide +kernel
theorem dL_crosses_826 : decode cL_crosses 826 = .ok (.iconst 1, 1) := by decide +kernel
theorem dL_crosses_827 : decode cL_crosses 827 = .ok (.if_icmp .ne 78, 3) := by decide +kernel
theorem dL_crosses_830 : decode cL_crosses 830 = .ok (.aload_n 0, 1) := by decide +kernel
theorem dL_crosses_831 : decode cL_crosses 831 = .ok (.invokevirtual 118, 3) := by decide +kernel
theorem dL_crosses_834 : decode cL_crosses 834 = .ok (.iconst 2, 1) := by decide +kernel
theorem dL_crosses_835 : decode cL_crosses 835 = .ok (.if_icmp .ne 70, 3) := by decide +kernel
theorem dL_crosses_838 : decode cL_crosses 838 = .ok (.aload_n 0, 1) := by decide +kernel
theorem dL_crosses_839 : decode cL_crosses 839 = .ok (.invokevirtual 59, 3) := by decide +kernel
theorem dL_crosses_842 : decode cL_crosses 842 = .ok (.iconst 3, 1) := by decide +kernel
theorem dL_crosses_843 : decode cL_crosses 843 = .ok (.if_icmp .ne 62, 3) := by decide +kernel
theorem dL_crosses_846 : decode cL_crosses 846 = .ok (.aload_n 0, 1) := by decide +kernel
theorem dL_crosses_847 : decode cL_crosses 847 = .ok (.invokevirtual 118, 3) := by decide +kernel
theorem dL_crosses_850 : decode cL_crosses 850 = .ok (.iconst 2, 1) := by decide +kernel
theorem dL_crosses_851 : decode cL_crosses 851 = .ok (.if_icmp .ne 54, 3) := by decide +kernel
theorem dL_crosses_854 : decode cL_crosses 854 = .ok (.aload_n 0, 1) := by decide +kernel
theorem dL_crosses_855 : decode cL_crosses 855 = .ok (.invokevirtual 160, 3) := by decide +kernel
theorem dL_crosses_858 : decode cL_crosses 858 = .ok (.iconst 2, 1) := by decide +kernel
theorem dL_crosses_859 : decode cL_crosses 859 = .ok (.if_icmp .ne 46, 3) := by decide +kernel
theorem dL_crosses_862 : decode cL_crosses 862 = .ok (.aload_n 0, 1) := by decide +kernel
theorem dL_crosses_863 : decode cL_crosses 863 = .ok (.invokevirtual 118, 3) := by decide +kernel
theorem dL_crosses_866 : decode cL_crosses 866 = .ok (.ifCond .ne 39, 3) := by decide +kernel
theorem dL_crosses_869 : decode cL_crosses 869 = .ok (.aload_n 0, 1) := by decide +kernel
theorem dL_crosses_870 : decode cL_crosses 870 = .ok (.iconst 0, 1) := by decide +kernel
theorem dL_crosses_871 : decode cL_crosses 871 = .ok (.iconst 5, 1) := by decide +kernel
theorem dL_crosses_872 : decode cL_crosses 872 = .ok (.bipush 60, 2) := by decide +kernel
theorem dL_crosses_874 : decode cL_crosses 874 = .ok (.iconst 0, 1) := by decide +kernel
theorem dL_crosses_875 : decode cL_crosses 875 = .ok (.invokevirtual 52, 3) := by decide +kernel
theorem dL_crosses_878 : decode cL_crosses 878 = .ok (.iconst 3, 1) := by decide +kernel
theorem dL_crosses_879 : decode cL_crosses 879 = .ok (.if_icmp .ne 26, 3) := by decide +kernel
theorem dL_crosses_882 : decode cL_crosses 882 = .ok (.aload_n 0, 1) := by decide +kernel
theorem dL_crosses_883 : decode cL_crosses 883 = .ok (.invokevirtual 118, 3) := by decide +kernel
theorem dL_crosses_886 : decode cL_crosses 886 = .ok (.iconst 2, 1) := by decide +kernel
theorem dL_crosses_887 : decode cL_crosses 887 = .ok (.if_icmp .ne 18, 3) := by decide +kernel
theorem dL_crosses_890 : decode cL_crosses 890 = .ok (.aload_n 0, 1) := by decide +kernel
theorem dL_crosses_891 : decode cL_crosses 891 = .ok (.invokevirtual 59, 3) := by decide +kernel
theorem dL_crosses_894 : decode cL_crosses 894 = .ok (.iconst 3, 1) := by decide +kernel
theorem dL_crosses_895 : decode cL_crosses 895 = .ok (.if_icmp .ne 10, 3) := by decide +kernel
theorem dL_crosses_898 : decode cL_crosses 898 = .ok (.aload_n 0, 1) := by decide +kernel
theorem dL_crosses_899 : decode cL_crosses 899 = .ok (.invokevirtual 118, 3) := by decide +kernel
theorem dL_crosses_902 : decode cL_crosses 902 = .ok (.ifCond .eq 5, 3) := by decide +kernel
theorem dL_crosses_905 : decode cL_crosses 905 = .ok (.iconst 0, 1) := by decide +kernel
theorem dL_crosses_906 : decode cL_crosses 906 = .ok (.ireturn, 1) := by decide +kernel
theorem dL_crosses_907 : decode cL_crosses 907 = .ok (.aload_n 0, 1) := by decide +kernel
theorem dL_crosses_908 : decode cL_crosses 908 = .ok (.iconst 2, 1) := by decide +kernel
theorem dL_crosses_909 : decode cL_crosses 909 = .ok (.iconst 4, 1) := by decide +kernel
theorem dL_crosses_910 : decode cL_crosses 910 = .ok (.iconst 3, 1) := by decide +kernel
theorem dL_crosses_911 : decode cL_crosses 911 = .ok (.bipush 8, 2) := by decide +kernel
theorem dL_crosses_913 : decode cL_crosses 913 = .ok (.invokestatic 130, 3) := by decide +kernel
theorem dL_crosses_916 : decode cL_crosses 916 = .ok (.ireturn, 1) := by decide +kernel
def fL_crosses8 (m : dM) : Option dM := (fL_act m 0 0 2 0 0 0).bind (fun q => dP2 q (fun v3 m2 => if (lg_cmp v3 1) = 0 then (fX11_line m2 0 0 0 20 0).bind (fun q => dS q (fun _ => none) (fun q => dP2 q (fun v6 m5 => if v6 = 0 then (fX11_line m5 0 20 20 0 20).bind (fun q => dS q (fun _ => none) (fun q => dP2 q (fun v10 m9 => if v10 = 1 then (fX11_line m9 0 0 0 9 0).bind (fun q => dS q (fun _ => none) (fun q => dP2 q (fun v14 m13 => if v14 = 2 then (fX11_line m13 0 40 140 39 141).bind (fun q => dS q (fun _ => none) (fun q => dP2 q (fun v18 m17 => if v18 = 3 then (fX11_part m17 0 0 8 60 0).bind (fun q => dS q (fun _ => none) (fun q => dP2 q (fun v22 m21 => if v22 = 0 then (fX11_part m21 0 1 1 60 0).bind (fun q => dS q (fun _ => none) (fun q => dP2 q (fun v26 m25 => if v26 = 1 then (fL_fault m25 1 1 0 0 (-1)).bind (fun m29 => (fX11_legs m29 0 0 40).bind (fun q => dS q (fun _ => none) (fun q => dP2 q (fun v33 m32 => if v33 = 14 then some m32 else none)))) else none))) else none))) else none))) else none))) else none))) else none))) else none))
set_option maxHeartbeats 4000000 in
set_option maxRecDepth 100000 in
theorem kL_crosses8 {p : Program} {l : Launch} {e : Env} {s : State} {mth : MethodId} {below : List Frame} {meth : Method} {c : Code} {g : dG} {Q : State → Prop} {H : Heap} {cells slots : Nat} {ls : Array Slot} {m m9 : dM} {K : Heap → Prop} (hst : l.stackTraces = false) (S : CallFix p mth c cL_crosses 2 s (([] : List Value).toArray) wsL_crosses RL) (hE : dEw g s) (hKs : ∀ H H1 : Heap, (∀ q, q < g.2.2.2 → H1[q]? = H[q]?) → K H → K H1) (hR : cells + 26 ≤ (headSpec wsL_crosses (dDm 12 249 2061 13792)).room.cells ∧ slots + 156 ≤ (headSpec wsL_crosses (dDm 12 249 2061 13792)).room.slots) (h : fL_crosses8 m = some m9) (hP : va_P g.1 vwCl (dws g m) H) (hS : va_S (dAs s) s.heap H []) (hb : g.2.2.2 ≤ H.size) (hK : K H) (hl : lv_has ls 2 [(0, .ref (dad g 0))])
    (kk : ∀ (H : Heap) (ls : Array Slot) (cells2 slots2 : Nat), cells2 ≤ cells + 26 → slots2 ≤ slots + 156 → va_P g.1 vwCl (dws g m9) H → va_S (dAs s) s.heap H [] → g.2.2.2 ≤ H.size → K H → lv_has ls 2 [(0, .ref (dad g 0))] → W p l e (headSpec wsL_crosses (dDm 12 249 2061 13792)).room s mth (([] : List Value).toArray) below meth c H [] cells2 slots2 Q (F0 mth 130 ls [])) : W p l e (headSpec wsL_crosses (dDm 12 249 2061 13792)).room s mth (([] : List Value).toArray) below meth c H [] cells slots Q (F0 mth 8 ls []) := by
  obtain ⟨hR1, hR2⟩ := hR
  unfold fL_crosses8 at h
  refine lv_aload_n S.1 S.2.1 dL_crosses_8 rfl (lv_at hl 0 rfl) ?_
  refine lv_iconst (v := 0) S.1 S.2.1 dL_crosses_9 (by decide) ?_
  refine lv_iconst (v := 2) S.1 S.2.1 dL_crosses_10 (by decide) ?_
  refine lv_iconst (v := 0) S.1 S.2.1 dL_crosses_11 (by decide) ?_
  refine lv_iconst (v := 0) S.1 S.2.1 dL_crosses_12 (by decide) ?_
  refine lv_iconst (v := 0) S.1 S.2.1 dL_crosses_13 (by decide) ?_
  obtain ⟨⟨v3, m2⟩, hc1, h⟩ := d_b h
  have h := d_p2 h
  refine dwLj (vx_runSX (As := [.ref (dad g 0), .int 0, .int 2, .int 0, .int 0, .int 0]) (rest := []) S (kL_act l g hst hc1) (vx_cwSW 6 S.2.2.2.2 gL_crosses_L_act rfl rfl rfl ynL_act ⟨(Nat.le_of_ble_eq_true rfl), (Nat.le_of_ble_eq_true rfl)⟩) (dwS hE hP hS hb) rfl rfl hl.1 rfl (lv_room (Nat.le_of_ble_eq_true rfl)) dL_crosses_14 ⟨by omega, by omega⟩) hE hS hb hKs hK (fun H hP hS hb hK => ?_)
  refine lv_lconst (v := 1) S.1 S.2.1 dL_crosses_17 (by decide) ?_
  refine W.lcmp S.1 S.2.1 dL_crosses_18 ?_
  refine lv_if_ne (tgt := 284) S.1 S.2.1 dL_crosses_19 (by decide) (fun cq => ?_) (fun cq => ?_)
  · have h := d_f cq h
    cases h
  · have h := d_t cq h
    refine lv_aload_n S.1 S.2.1 dL_crosses_22 rfl (lv_at hl 0 rfl) ?_
    refine lv_iconst (v := 0) S.1 S.2.1 dL_crosses_23 (by decide) ?_
    refine lv_iconst (v := 0) S.1 S.2.1 dL_crosses_24 (by decide) ?_
    refine lv_bipush (v := 20) S.1 S.2.1 dL_crosses_25 (by decide) ?_
    refine lv_iconst (v := 0) S.1 S.2.1 dL_crosses_27 (by decide) ?_
    obtain ⟨q7, hc4, h⟩ := d_b h
    rcases q7 with q7 | q7
    · have h := d_s1 h
      cases h
    obtain ⟨v6, m5⟩ := q7
    have h := d_s2 h
    have h := d_p2 h
    refine dwxi (vx_runV (As := [.int 0, .int 0, .int 20, .int 0]) (rest := []) S (kX11_line l g hst hc4) (cwV 4 S.2.2.2.2 gL_crosses_X11_line rfl rfl rfl ynX11_line ⟨(Nat.le_of_ble_eq_true rfl), (Nat.le_of_ble_eq_true rfl)⟩) (dwV hE hP hS hb (ci := 11) rfl (dat12 dk_0)) rfl rfl hl.1 rfl (lv_room (Nat.le_of_ble_eq_true rfl)) dL_crosses_28 ⟨by omega, by omega⟩) rfl hE hS hb hKs hK (fun H hP hS hb hK => ?_)
    refine lv_if_ne (tgt := 284) S.1 S.2.1 dL_crosses_31 (by decide) (fun cq => ?_) (fun cq => ?_)
    · have h := d_f cq h
      cases h
    · have h := d_t cq h
      refine lv_aload_n S.1 S.2.1 dL_crosses_34 rfl (lv_at hl 0 rfl) ?_
      refine lv_bipush (v := 20) S.1 S.2.1 dL_crosses_35 (by decide) ?_
      refine lv_bipush (v := 20) S.1 S.2.1 dL_crosses_37 (by decide) ?_
      refine lv_iconst (v := 0) S.1 S.2.1 dL_crosses_39 (by decide) ?_
      refine lv_bipush (v := 20) S.1 S.2.1 dL_crosses_40 (by decide) ?_
      obtain ⟨q11, hc8, h⟩ := d_b h
      rcases q11 with q11 | q11
      · have h := d_s1 h
        cases h
      obtain ⟨v10, m9⟩ := q11
      have h := d_s2 h
      have h := d_p2 h
      refine dwxi (vx_runV (As := [.int 20, .int 20, .int 0, .int 20]) (rest := []) S (kX11_line l g hst hc8) (cwV 4 S.2.2.2.2 gL_crosses_X11_line rfl rfl rfl ynX11_line ⟨(Nat.le_of_ble_eq_true rfl), (Nat.le_of_ble_eq_true rfl)⟩) (dwV hE hP hS hb (ci := 11) rfl (dat12 dk_0)) rfl rfl hl.1 rfl (lv_room (Nat.le_of_ble_eq_true rfl)) dL_crosses_42 ⟨by omega, by omega⟩) rfl hE hS hb hKs hK (fun H hP hS hb hK => ?_)
      refine lv_iconst (v := 1) S.1 S.2.1 dL_crosses_45 (by decide) ?_
      refine lv_icmp_ne (tgt := 284) S.1 S.2.1 dL_crosses_46 (by decide) (fun cq => ?_) (fun cq => ?_)
      · have h := d_f cq h
        cases h
      · have h := d_t cq h
        refine lv_aload_n S.1 S.2.1 dL_crosses_49 rfl (lv_at hl 0 rfl) ?_
        refine lv_iconst (v := 0) S.1 S.2.1 dL_crosses_50 (by decide) ?_
        refine lv_iconst (v := 0) S.1 S.2.1 dL_crosses_51 (by decide) ?_
        refine lv_bipush (v := 9) S.1 S.2.1 dL_crosses_52 (by decide) ?_
        refine lv_iconst (v := 0) S.1 S.2.1 dL_crosses_54 (by decide) ?_
        obtain ⟨q15, hc12, h⟩ := d_b h
        rcases q15 with q15 | q15
        · have h := d_s1 h
          cases h
        obtain ⟨v14, m13⟩ := q15
        have h := d_s2 h
        have h := d_p2 h
        refine dwxi (vx_runV (As := [.int 0, .int 0, .int 9, .int 0]) (rest := []) S (kX11_line l g hst hc12) (cwV 4 S.2.2.2.2 gL_crosses_X11_line rfl rfl rfl ynX11_line ⟨(Nat.le_of_ble_eq_true rfl), (Nat.le_of_ble_eq_true rfl)⟩) (dwV hE hP hS hb (ci := 11) rfl (dat12 dk_0)) rfl rfl hl.1 rfl (lv_room (Nat.le_of_ble_eq_true rfl)) dL_crosses_55 ⟨by omega, by omega⟩) rfl hE hS hb hKs hK (fun H hP hS hb hK => ?_)
        refine lv_iconst (v := 2) S.1 S.2.1 dL_crosses_58 (by decide) ?_
        refine lv_icmp_ne (tgt := 284) S.1 S.2.1 dL_crosses_59 (by decide) (fun cq => ?_) (fun cq => ?_)
        · have h := d_f cq h
          cases h
        · have h := d_t cq h
          refine lv_aload_n S.1 S.2.1 dL_crosses_62 rfl (lv_at hl 0 rfl) ?_
          refine lv_bipush (v := 40) S.1 S.2.1 dL_crosses_63 (by decide) ?_
          refine lv_sipush (v := 140) S.1 S.2.1 dL_crosses_65 (by decide) ?_
          refine lv_bipush (v := 39) S.1 S.2.1 dL_crosses_68 (by decide) ?_
          refine lv_sipush (v := 141) S.1 S.2.1 dL_crosses_70 (by decide) ?_
          obtain ⟨q19, hc16, h⟩ := d_b h
          rcases q19 with q19 | q19
          · have h := d_s1 h
            cases h
          obtain ⟨v18, m17⟩ := q19
          have h := d_s2 h
          have h := d_p2 h
          refine dwxi (vx_runV (As := [.int 40, .int 140, .int 39, .int 141]) (rest := []) S (kX11_line l g hst hc16) (cwV 4 S.2.2.2.2 gL_crosses_X11_line rfl rfl rfl ynX11_line ⟨(Nat.le_of_ble_eq_true rfl), (Nat.le_of_ble_eq_true rfl)⟩) (dwV hE hP hS hb (ci := 11) rfl (dat12 dk_0)) rfl rfl hl.1 rfl (lv_room (Nat.le_of_ble_eq_true rfl)) dL_crosses_73 ⟨by omega, by omega⟩) rfl hE hS hb hKs hK (fun H hP hS hb hK => ?_)
          refine lv_iconst (v := 3) S.1 S.2.1 dL_crosses_76 (by decide) ?_
          refine lv_icmp_ne (tgt := 284) S.1 S.2.1 dL_crosses_77 (by decide) (fun cq => ?_) (fun cq => ?_)
          · have h := d_f cq h
            cases h
          · have h := d_t cq h
            refine lv_aload_n S.1 S.2.1 dL_crosses_80 rfl (lv_at hl 0 rfl) ?_
            refine lv_iconst (v := 0) S.1 S.2.1 dL_crosses_81 (by decide) ?_
            refine lv_bipush (v := 8) S.1 S.2.1 dL_crosses_82 (by decide) ?_
            refine lv_bipush (v := 60) S.1 S.2.1 dL_crosses_84 (by decide) ?_
            refine lv_iconst (v := 0) S.1 S.2.1 dL_crosses_86 (by decide) ?_
            obtain ⟨q23, hc20, h⟩ := d_b h
            rcases q23 with q23 | q23
            · have h := d_s1 h
              cases h
            obtain ⟨v22, m21⟩ := q23
            have h := d_s2 h
            have h := d_p2 h
            refine dwxi (vx_runV (As := [.int 0, .int 8, .int 60, .int 0]) (rest := []) S (kX11_part l g hst hc20) (cwV 4 S.2.2.2.2 gL_crosses_X11_part rfl rfl rfl ynX11_part ⟨(Nat.le_of_ble_eq_true rfl), (Nat.le_of_ble_eq_true rfl)⟩) (dwV hE hP hS hb (ci := 11) rfl (dat12 dk_0)) rfl rfl hl.1 rfl (lv_room (Nat.le_of_ble_eq_true rfl)) dL_crosses_87 ⟨by omega, by omega⟩) rfl hE hS hb hKs hK (fun H hP hS hb hK => ?_)
            refine lv_if_ne (tgt := 284) S.1 S.2.1 dL_crosses_90 (by decide) (fun cq => ?_) (fun cq => ?_)
            · have h := d_f cq h
              cases h
            · have h := d_t cq h
              refine lv_aload_n S.1 S.2.1 dL_crosses_93 rfl (lv_at hl 0 rfl) ?_
              refine lv_iconst (v := 1) S.1 S.2.1 dL_crosses_94 (by decide) ?_
              refine lv_iconst (v := 1) S.1 S.2.1 dL_crosses_95 (by decide) ?_
              refine lv_bipush (v := 60) S.1 S.2.1 dL_crosses_96 (by decide) ?_
              refine lv_iconst (v := 0) S.1 S.2.1 dL_crosses_98 (by decide) ?_
              obtain ⟨q27, hc24, h⟩ := d_b h
              rcases q27 with q27 | q27
              · have h := d_s1 h
                cases h
              obtain ⟨v26, m25⟩ := q27
              have h := d_s2 h
              have h := d_p2 h
              refine dwxi (vx_runV (As := [.int 1, .int 1, .int 60, .int 0]) (rest := []) S (kX11_part l g hst hc24) (cwV 4 S.2.2.2.2 gL_crosses_X11_part rfl rfl rfl ynX11_part ⟨(Nat.le_of_ble_eq_true rfl), (Nat.le_of_ble_eq_true rfl)⟩) (dwV hE hP hS hb (ci := 11) rfl (dat12 dk_0)) rfl rfl hl.1 rfl (lv_room (Nat.le_of_ble_eq_true rfl)) dL_crosses_99 ⟨by omega, by omega⟩) rfl hE hS hb hKs hK (fun H hP hS hb hK => ?_)
              refine lv_iconst (v := 1) S.1 S.2.1 dL_crosses_102 (by decide) ?_
              refine lv_icmp_ne (tgt := 284) S.1 S.2.1 dL_crosses_103 (by decide) (fun cq => ?_) (fun cq => ?_)
              · have h := d_f cq h
                cases h
              · have h := d_t cq h
                refine lv_aload_n S.1 S.2.1 dL_crosses_106 rfl (lv_at hl 0 rfl) ?_
                refine lv_iconst (v := 1) S.1 S.2.1 dL_crosses_107 (by decide) ?_
                refine lv_iconst (v := 1) S.1 S.2.1 dL_crosses_108 (by decide) ?_
                refine lv_iconst (v := 0) S.1 S.2.1 dL_crosses_109 (by decide) ?_
                refine lv_iconst (v := 0) S.1 S.2.1 dL_crosses_110 (by decide) ?_
                refine lv_iconst (v := (-1)) S.1 S.2.1 dL_crosses_111 (by decide) ?_
                obtain ⟨m29, hc28, h⟩ := d_b h
                refine dwLi (vx_runS (As := [.ref (dad g 0), .int 1, .int 1, .int 0, .int 0, .int (-1)]) (rest := []) S (kL_fault l g hst hc28) (va_cwS 6 S.2.2.2.2 gL_crosses_L_fault rfl rfl rfl ynL_fault ⟨(Nat.le_of_ble_eq_true rfl), (Nat.le_of_ble_eq_true rfl)⟩) (dwS hE hP hS hb) rfl rfl hl.1 rfl (lv_room (Nat.le_of_ble_eq_true rfl)) dL_crosses_112 ⟨by omega, by omega⟩) hE hS hb hKs hK (fun H hP hS hb hK => ?_)
                refine lv_if_eq (tgt := 284) S.1 S.2.1 dL_crosses_115 (by decide) (fun cq => ?_) (fun cq => ?_)
                · exact absurd cq (by decide)
                · refine lv_aload_n S.1 S.2.1 dL_crosses_118 rfl (lv_at hl 0 rfl) ?_
                  refine lv_iconst (v := 0) S.1 S.2.1 dL_crosses_119 (by decide) ?_
                  refine lv_bipush (v := 40) S.1 S.2.1 dL_crosses_120 (by decide) ?_
                  obtain ⟨q34, hc31, h⟩ := d_b h
                  rcases q34 with q34 | q34
                  · have h := d_s1 h
                    cases h
                  obtain ⟨v33, m32⟩ := q34
                  have h := d_s2 h
                  have h := d_p2 h
                  refine dwxi (vx_runV (As := [.int 0, .int 40]) (rest := []) S (kX11_legs l g hst hc31) (cwV 2 S.2.2.2.2 gL_crosses_X11_legs rfl rfl rfl ynX11_legs ⟨(Nat.le_of_ble_eq_true rfl), (Nat.le_of_ble_eq_true rfl)⟩) (dwV hE hP hS hb (ci := 11) rfl (dat12 dk_0)) rfl rfl hl.1 rfl (lv_room (Nat.le_of_ble_eq_true rfl)) dL_crosses_122 ⟨by omega, by omega⟩) rfl hE hS hb hKs hK (fun H hP hS hb hK => ?_)
                  refine lv_bipush (v := 14) S.1 S.2.1 dL_crosses_125 (by decide) ?_
                  refine lv_icmp_ne (tgt := 284) S.1 S.2.1 dL_crosses_127 (by decide) (fun cq => ?_) (fun cq => ?_)
                  · have h := d_f cq h
                    cases h
                  · have h := d_t cq h
                    obtain rfl := Option.some.inj h
                    exact kk H ls _ _ (by omega) (by omega) hP hS hb hK (lv_sub hl [0] rfl)
def fL_crosses130 (m : dM) : Option dM := (fL_fault m 1 1 0 1 (-1)).bind (fun m2 => (fX11_legs m2 0 1 40).bind (fun q => dS q (fun _ => none) (fun q => dP2 q (fun v6 m5 => if v6 = 14 then (fL_fault m5 1 1 2 0 1).bind (fun m9 => (fL_act m9 0 2 1 1 0 0).bind (fun q => dP2 q (fun v13 m12 => if (lg_cmp v13 0) = 0 then (fL_fault m12 1 (-1) (-1) (-1) (-1)).bind (fun m15 => (fX11_ill m15 0 1 0).bind (fun q => dS q (fun _ => none) (fun q => dP2 q (fun v19 m18 => if v19 = 0 then none else (fL_act m18 0 8 1 1 1 60).bind (fun q => dP2 q (fun v23 m22 => if (lg_cmp v23 1) = 0 then (fX11_place m22 0 1 0).bind (fun q => dS q (fun _ => none) (fun q => dP2 q (fun v26 m25 => if v26 = 1 then (fX11_walking m25 0 1).bind (fun q => dS q (fun _ => none) (fun q => dP2 q (fun v30 m29 => if (lg_cmp v30 800) = 0 then some m29 else none))) else none))) else none)))))) else none))) else none))))
set_option maxHeartbeats 4000000 in
set_option maxRecDepth 100000 in
theorem kL_crosses130 {p : Program} {l : Launch} {e : Env} {s : State} {mth : MethodId} {below : List Frame} {meth : Method} {c : Code} {g : dG} {Q : State → Prop} {H : Heap} {cells slots : Nat} {ls : Array Slot} {m m9 : dM} {K : Heap → Prop} (hst : l.stackTraces = false) (S : CallFix p mth c cL_crosses 2 s (([] : List Value).toArray) wsL_crosses RL) (hE : dEw g s) (hKs : ∀ H H1 : Heap, (∀ q, q < g.2.2.2 → H1[q]? = H[q]?) → K H → K H1) (hR : cells + 38 ≤ (headSpec wsL_crosses (dDm 12 249 2061 13792)).room.cells ∧ slots + 228 ≤ (headSpec wsL_crosses (dDm 12 249 2061 13792)).room.slots) (h : fL_crosses130 m = some m9) (hP : va_P g.1 vwCl (dws g m) H) (hS : va_S (dAs s) s.heap H []) (hb : g.2.2.2 ≤ H.size) (hK : K H) (hl : lv_has ls 2 [(0, .ref (dad g 0))])
    (kk : ∀ (H : Heap) (ls : Array Slot) (cells2 slots2 : Nat), cells2 ≤ cells + 38 → slots2 ≤ slots + 228 → va_P g.1 vwCl (dws g m9) H → va_S (dAs s) s.heap H [] → g.2.2.2 ≤ H.size → K H → lv_has ls 2 [(0, .ref (dad g 0))] → W p l e (headSpec wsL_crosses (dDm 12 249 2061 13792)).room s mth (([] : List Value).toArray) below meth c H [] cells2 slots2 Q (F0 mth 239 ls [])) : W p l e (headSpec wsL_crosses (dDm 12 249 2061 13792)).room s mth (([] : List Value).toArray) below meth c H [] cells slots Q (F0 mth 130 ls []) := by
  obtain ⟨hR1, hR2⟩ := hR
  unfold fL_crosses130 at h
  refine lv_aload_n S.1 S.2.1 dL_crosses_130 rfl (lv_at hl 0 rfl) ?_
  refine lv_iconst (v := 1) S.1 S.2.1 dL_crosses_131 (by decide) ?_
  refine lv_iconst (v := 1) S.1 S.2.1 dL_crosses_132 (by decide) ?_
  refine lv_iconst (v := 0) S.1 S.2.1 dL_crosses_133 (by decide) ?_
  refine lv_iconst (v := 1) S.1 S.2.1 dL_crosses_134 (by decide) ?_
  refine lv_iconst (v := (-1)) S.1 S.2.1 dL_crosses_135 (by decide) ?_
  obtain ⟨m2, hc1, h⟩ := d_b h
  refine dwLi (vx_runS (As := [.ref (dad g 0), .int 1, .int 1, .int 0, .int 1, .int (-1)]) (rest := []) S (kL_fault l g hst hc1) (va_cwS 6 S.2.2.2.2 gL_crosses_L_fault rfl rfl rfl ynL_fault ⟨(Nat.le_of_ble_eq_true rfl), (Nat.le_of_ble_eq_true rfl)⟩) (dwS hE hP hS hb) rfl rfl hl.1 rfl (lv_room (Nat.le_of_ble_eq_true rfl)) dL_crosses_136 ⟨by omega, by omega⟩) hE hS hb hKs hK (fun H hP hS hb hK => ?_)
  refine lv_if_eq (tgt := 284) S.1 S.2.1 dL_crosses_139 (by decide) (fun cq => ?_) (fun cq => ?_)
  · exact absurd cq (by decide)
  · refine lv_aload_n S.1 S.2.1 dL_crosses_142 rfl (lv_at hl 0 rfl) ?_
    refine lv_iconst (v := 1) S.1 S.2.1 dL_crosses_143 (by decide) ?_
    refine lv_bipush (v := 40) S.1 S.2.1 dL_crosses_144 (by decide) ?_
    obtain ⟨q7, hc4, h⟩ := d_b h
    rcases q7 with q7 | q7
    · have h := d_s1 h
      cases h
    obtain ⟨v6, m5⟩ := q7
    have h := d_s2 h
    have h := d_p2 h
    refine dwxi (vx_runV (As := [.int 1, .int 40]) (rest := []) S (kX11_legs l g hst hc4) (cwV 2 S.2.2.2.2 gL_crosses_X11_legs rfl rfl rfl ynX11_legs ⟨(Nat.le_of_ble_eq_true rfl), (Nat.le_of_ble_eq_true rfl)⟩) (dwV hE hP hS hb (ci := 11) rfl (dat12 dk_0)) rfl rfl hl.1 rfl (lv_room (Nat.le_of_ble_eq_true rfl)) dL_crosses_146 ⟨by omega, by omega⟩) rfl hE hS hb hKs hK (fun H hP hS hb hK => ?_)
    refine lv_bipush (v := 14) S.1 S.2.1 dL_crosses_149 (by decide) ?_
    refine lv_icmp_ne (tgt := 284) S.1 S.2.1 dL_crosses_151 (by decide) (fun cq => ?_) (fun cq => ?_)
    · have h := d_f cq h
      cases h
    · have h := d_t cq h
      refine lv_aload_n S.1 S.2.1 dL_crosses_154 rfl (lv_at hl 0 rfl) ?_
      refine lv_iconst (v := 1) S.1 S.2.1 dL_crosses_155 (by decide) ?_
      refine lv_iconst (v := 1) S.1 S.2.1 dL_crosses_156 (by decide) ?_
      refine lv_iconst (v := 2) S.1 S.2.1 dL_crosses_157 (by decide) ?_
      refine lv_iconst (v := 0) S.1 S.2.1 dL_crosses_158 (by decide) ?_
      refine lv_iconst (v := 1) S.1 S.2.1 dL_crosses_159 (by decide) ?_
      obtain ⟨m9, hc8, h⟩ := d_b h
      refine dwLi (vx_runS (As := [.ref (dad g 0), .int 1, .int 1, .int 2, .int 0, .int 1]) (rest := []) S (kL_fault l g hst hc8) (va_cwS 6 S.2.2.2.2 gL_crosses_L_fault rfl rfl rfl ynL_fault ⟨(Nat.le_of_ble_eq_true rfl), (Nat.le_of_ble_eq_true rfl)⟩) (dwS hE hP hS hb) rfl rfl hl.1 rfl (lv_room (Nat.le_of_ble_eq_true rfl)) dL_crosses_160 ⟨by omega, by omega⟩) hE hS hb hKs hK (fun H hP hS hb hK => ?_)
      refine lv_if_eq (tgt := 284) S.1 S.2.1 dL_crosses_163 (by decide) (fun cq => ?_) (fun cq => ?_)
      · exact absurd cq (by decide)
      · refine lv_aload_n S.1 S.2.1 dL_crosses_166 rfl (lv_at hl 0 rfl) ?_
        refine lv_iconst (v := 2) S.1 S.2.1 dL_crosses_167 (by decide) ?_
        refine lv_iconst (v := 1) S.1 S.2.1 dL_crosses_168 (by decide) ?_
        refine lv_iconst (v := 1) S.1 S.2.1 dL_crosses_169 (by decide) ?_
        refine lv_iconst (v := 0) S.1 S.2.1 dL_crosses_170 (by decide) ?_
        refine lv_iconst (v := 0) S.1 S.2.1 dL_crosses_171 (by decide) ?_
        obtain ⟨⟨v13, m12⟩, hc11, h⟩ := d_b h
        have h := d_p2 h
        refine dwLj (vx_runSX (As := [.ref (dad g 0), .int 2, .int 1, .int 1, .int 0, .int 0]) (rest := []) S (kL_act l g hst hc11) (vx_cwSW 6 S.2.2.2.2 gL_crosses_L_act rfl rfl rfl ynL_act ⟨(Nat.le_of_ble_eq_true rfl), (Nat.le_of_ble_eq_true rfl)⟩) (dwS hE hP hS hb) rfl rfl hl.1 rfl (lv_room (Nat.le_of_ble_eq_true rfl)) dL_crosses_172 ⟨by omega, by omega⟩) hE hS hb hKs hK (fun H hP hS hb hK => ?_)
        refine lv_lconst (v := 0) S.1 S.2.1 dL_crosses_175 (by decide) ?_
        refine W.lcmp S.1 S.2.1 dL_crosses_176 ?_
        refine lv_if_ne (tgt := 284) S.1 S.2.1 dL_crosses_177 (by decide) (fun cq => ?_) (fun cq => ?_)
        · have h := d_f cq h
          cases h
        · have h := d_t cq h
          refine lv_aload_n S.1 S.2.1 dL_crosses_180 rfl (lv_at hl 0 rfl) ?_
          refine lv_iconst (v := 1) S.1 S.2.1 dL_crosses_181 (by decide) ?_
          refine lv_iconst (v := (-1)) S.1 S.2.1 dL_crosses_182 (by decide) ?_
          refine lv_iconst (v := (-1)) S.1 S.2.1 dL_crosses_183 (by decide) ?_
          refine lv_iconst (v := (-1)) S.1 S.2.1 dL_crosses_184 (by decide) ?_
          refine lv_iconst (v := (-1)) S.1 S.2.1 dL_crosses_185 (by decide) ?_
          obtain ⟨m15, hc14, h⟩ := d_b h
          refine dwLi (vx_runS (As := [.ref (dad g 0), .int 1, .int (-1), .int (-1), .int (-1), .int (-1)]) (rest := []) S (kL_fault l g hst hc14) (va_cwS 6 S.2.2.2.2 gL_crosses_L_fault rfl rfl rfl ynL_fault ⟨(Nat.le_of_ble_eq_true rfl), (Nat.le_of_ble_eq_true rfl)⟩) (dwS hE hP hS hb) rfl rfl hl.1 rfl (lv_room (Nat.le_of_ble_eq_true rfl)) dL_crosses_186 ⟨by omega, by omega⟩) hE hS hb hKs hK (fun H hP hS hb hK => ?_)
          refine lv_if_eq (tgt := 284) S.1 S.2.1 dL_crosses_189 (by decide) (fun cq => ?_) (fun cq => ?_)
          · exact absurd cq (by decide)
          · refine lv_aload_n S.1 S.2.1 dL_crosses_192 rfl (lv_at hl 0 rfl) ?_
            refine lv_iconst (v := 1) S.1 S.2.1 dL_crosses_193 (by decide) ?_
            refine lv_iconst (v := 0) S.1 S.2.1 dL_crosses_194 (by decide) ?_
            obtain ⟨q20, hc17, h⟩ := d_b h
            rcases q20 with q20 | q20
            · have h := d_s1 h
              cases h
            obtain ⟨v19, m18⟩ := q20
            have h := d_s2 h
            have h := d_p2 h
            refine dwxi (vx_runV (As := [.int 1, .int 0]) (rest := []) S (kX11_ill l g hst hc17) (cwV 2 S.2.2.2.2 gL_crosses_X11_ill rfl rfl rfl ynX11_ill ⟨(Nat.le_of_ble_eq_true rfl), (Nat.le_of_ble_eq_true rfl)⟩) (dwV hE hP hS hb (ci := 11) rfl (dat12 dk_0)) rfl rfl hl.1 rfl (lv_room (Nat.le_of_ble_eq_true rfl)) dL_crosses_195 ⟨by omega, by omega⟩) rfl hE hS hb hKs hK (fun H hP hS hb hK => ?_)
            refine lv_if_eq (tgt := 284) S.1 S.2.1 dL_crosses_198 (by decide) (fun cq => ?_) (fun cq => ?_)
            · have h := d_t cq h
              cases h
            · have h := d_f cq h
              refine lv_aload_n S.1 S.2.1 dL_crosses_201 rfl (lv_at hl 0 rfl) ?_
              refine lv_bipush (v := 8) S.1 S.2.1 dL_crosses_202 (by decide) ?_
              refine lv_iconst (v := 1) S.1 S.2.1 dL_crosses_204 (by decide) ?_
              refine lv_iconst (v := 1) S.1 S.2.1 dL_crosses_205 (by decide) ?_
              refine lv_iconst (v := 1) S.1 S.2.1 dL_crosses_206 (by decide) ?_
              refine lv_bipush (v := 60) S.1 S.2.1 dL_crosses_207 (by decide) ?_
              obtain ⟨⟨v23, m22⟩, hc21, h⟩ := d_b h
              have h := d_p2 h
              refine dwLj (vx_runSX (As := [.ref (dad g 0), .int 8, .int 1, .int 1, .int 1, .int 60]) (rest := []) S (kL_act l g hst hc21) (vx_cwSW 6 S.2.2.2.2 gL_crosses_L_act rfl rfl rfl ynL_act ⟨(Nat.le_of_ble_eq_true rfl), (Nat.le_of_ble_eq_true rfl)⟩) (dwS hE hP hS hb) rfl rfl hl.1 rfl (lv_room (Nat.le_of_ble_eq_true rfl)) dL_crosses_209 ⟨by omega, by omega⟩) hE hS hb hKs hK (fun H hP hS hb hK => ?_)
              refine lv_lconst (v := 1) S.1 S.2.1 dL_crosses_212 (by decide) ?_
              refine W.lcmp S.1 S.2.1 dL_crosses_213 ?_
              refine lv_if_ne (tgt := 284) S.1 S.2.1 dL_crosses_214 (by decide) (fun cq => ?_) (fun cq => ?_)
              · have h := d_f cq h
                cases h
              · have h := d_t cq h
                refine lv_aload_n S.1 S.2.1 dL_crosses_217 rfl (lv_at hl 0 rfl) ?_
                refine lv_iconst (v := 1) S.1 S.2.1 dL_crosses_218 (by decide) ?_
                refine lv_iconst (v := 0) S.1 S.2.1 dL_crosses_219 (by decide) ?_
                obtain ⟨q27, hc24, h⟩ := d_b h
                rcases q27 with q27 | q27
                · have h := d_s1 h
                  cases h
                obtain ⟨v26, m25⟩ := q27
                have h := d_s2 h
                have h := d_p2 h
                refine dwxi (vx_runV (As := [.int 1, .int 0]) (rest := []) S (kX11_place l g hst hc24) (cwV 2 S.2.2.2.2 gL_crosses_X11_place rfl rfl rfl ynX11_place ⟨(Nat.le_of_ble_eq_true rfl), (Nat.le_of_ble_eq_true rfl)⟩) (dwV hE hP hS hb (ci := 11) rfl (dat12 dk_0)) rfl rfl hl.1 rfl (lv_room (Nat.le_of_ble_eq_true rfl)) dL_crosses_220 ⟨by omega, by omega⟩) rfl hE hS hb hKs hK (fun H hP hS hb hK => ?_)
                refine lv_iconst (v := 1) S.1 S.2.1 dL_crosses_223 (by decide) ?_
                refine lv_icmp_ne (tgt := 284) S.1 S.2.1 dL_crosses_224 (by decide) (fun cq => ?_) (fun cq => ?_)
                · have h := d_f cq h
                  cases h
                · have h := d_t cq h
                  refine lv_aload_n S.1 S.2.1 dL_crosses_227 rfl (lv_at hl 0 rfl) ?_
                  refine lv_iconst (v := 1) S.1 S.2.1 dL_crosses_228 (by decide) ?_
                  obtain ⟨q31, hc28, h⟩ := d_b h
                  rcases q31 with q31 | q31
                  · have h := d_s1 h
                    cases h
                  obtain ⟨v30, m29⟩ := q31
                  have h := d_s2 h
                  have h := d_p2 h
                  refine dwxj (vx_runV (As := [.int 1]) (rest := []) S (kX11_walking l g hst hc28) (cwV 1 S.2.2.2.2 gL_crosses_X11_walking rfl rfl rfl ynX11_walking ⟨(Nat.le_of_ble_eq_true rfl), (Nat.le_of_ble_eq_true rfl)⟩) (dwV hE hP hS hb (ci := 11) rfl (dat12 dk_0)) rfl rfl hl.1 rfl (lv_room (Nat.le_of_ble_eq_true rfl)) dL_crosses_229 ⟨by omega, by omega⟩) rfl hE hS hb hKs hK (fun H hP hS hb hK => ?_)
                  refine lv_ldc2 (v := 800) S.1 S.2.1 S.2.2.2.1 (S.2.2.2.2 (.constantLong RL 158 (800)) (List.mem_of_getElem? (i := 4) rfl)) dL_crosses_232 ?_
                  refine W.lcmp S.1 S.2.1 dL_crosses_235 ?_
                  refine lv_if_ne (tgt := 284) S.1 S.2.1 dL_crosses_236 (by decide) (fun cq => ?_) (fun cq => ?_)
                  · have h := d_f cq h
                    cases h
                  · have h := d_t cq h
                    obtain rfl := Option.some.inj h
                    exact kk H ls _ _ (by omega) (by omega) hP hS hb hK (lv_sub hl [0] rfl)
def fL_crosses239 (m : dM) : Option dM := (fL_fault m 1 (-1) (-1) (-1) (-1)).bind (fun m2 => (fX11_agrees m2 0).bind (fun q => dP2 q (fun v6 m5 => if v6 = 0 then none else (fX11_part m5 0 2 2 240 0).bind (fun q => dS q (fun _ => none) (fun q => dP2 q (fun v9 m8 => if v9 = 2 then (fL_fault m8 2 2 1 0 1).bind (fun m12 => some m12) else none))))))
set_option maxHeartbeats 4000000 in
set_option maxRecDepth 100000 in
theorem kL_crosses239 {p : Program} {l : Launch} {e : Env} {s : State} {mth : MethodId} {below : List Frame} {meth : Method} {c : Code} {g : dG} {Q : State → Prop} {H : Heap} {cells slots : Nat} {ls : Array Slot} {m m9 : dM} {K : Heap → Prop} (hst : l.stackTraces = false) (S : CallFix p mth c cL_crosses 2 s (([] : List Value).toArray) wsL_crosses RL) (hE : dEw g s) (hKs : ∀ H H1 : Heap, (∀ q, q < g.2.2.2 → H1[q]? = H[q]?) → K H → K H1) (hR : cells + 20 ≤ (headSpec wsL_crosses (dDm 12 249 2061 13792)).room.cells ∧ slots + 120 ≤ (headSpec wsL_crosses (dDm 12 249 2061 13792)).room.slots) (h : fL_crosses239 m = some m9) (hP : va_P g.1 vwCl (dws g m) H) (hS : va_S (dAs s) s.heap H []) (hb : g.2.2.2 ≤ H.size) (hK : K H) (hl : lv_has ls 2 [(0, .ref (dad g 0))])
    (kk : ∀ (H : Heap) (ls : Array Slot) (cells2 slots2 : Nat), cells2 ≤ cells + 20 → slots2 ≤ slots + 120 → va_P g.1 vwCl (dws g m9) H → va_S (dAs s) s.heap H [] → g.2.2.2 ≤ H.size → K H → lv_has ls 2 [(0, .ref (dad g 0))] → W p l e (headSpec wsL_crosses (dDm 12 249 2061 13792)).room s mth (([] : List Value).toArray) below meth c H [] cells2 slots2 Q (F0 mth 286 ls [])) : W p l e (headSpec wsL_crosses (dDm 12 249 2061 13792)).room s mth (([] : List Value).toArray) below meth c H [] cells slots Q (F0 mth 239 ls []) := by
  obtain ⟨hR1, hR2⟩ := hR
  unfold fL_crosses239 at h
  refine lv_aload_n S.1 S.2.1 dL_crosses_239 rfl (lv_at hl 0 rfl) ?_
  refine lv_iconst (v := 1) S.1 S.2.1 dL_crosses_240 (by decide) ?_
  refine lv_iconst (v := (-1)) S.1 S.2.1 dL_crosses_241 (by decide) ?_
  refine lv_iconst (v := (-1)) S.1 S.2.1 dL_crosses_242 (by decide) ?_
  refine lv_iconst (v := (-1)) S.1 S.2.1 dL_crosses_243 (by decide) ?_
  refine lv_iconst (v := (-1)) S.1 S.2.1 dL_crosses_244 (by decide) ?_
  obtain ⟨m2, hc1, h⟩ := d_b h
  refine dwLi (vx_runS (As := [.ref (dad g 0), .int 1, .int (-1), .int (-1), .int (-1), .int (-1)]) (rest := []) S (kL_fault l g hst hc1) (va_cwS 6 S.2.2.2.2 gL_crosses_L_fault rfl rfl rfl ynL_fault ⟨(Nat.le_of_ble_eq_true rfl), (Nat.le_of_ble_eq_true rfl)⟩) (dwS hE hP hS hb) rfl rfl hl.1 rfl (lv_room (Nat.le_of_ble_eq_true rfl)) dL_crosses_245 ⟨by omega, by omega⟩) hE hS hb hKs hK (fun H hP hS hb hK => ?_)
  refine lv_if_eq (tgt := 284) S.1 S.2.1 dL_crosses_248 (by decide) (fun cq => ?_) (fun cq => ?_)
  · exact absurd cq (by decide)
  · refine lv_aload_n S.1 S.2.1 dL_crosses_251 rfl (lv_at hl 0 rfl) ?_
    obtain ⟨⟨v6, m5⟩, hc4, h⟩ := d_b h
    have h := d_p2 h
    refine dwi (va_runV (As := []) (rest := []) S (kX11_agrees l g hc4) (cwV 0 S.2.2.2.2 gL_crosses_X11_agrees rfl rfl rfl ynX11_agrees ⟨(Nat.le_of_ble_eq_true rfl), (Nat.le_of_ble_eq_true rfl)⟩) (dwV hE hP hS hb (ci := 11) rfl (dat12 dk_0)) rfl rfl hl.1 rfl (lv_room (Nat.le_of_ble_eq_true rfl)) dL_crosses_252 ⟨by omega, by omega⟩) hE hS hb hKs hK (fun H hP hS hb hK => ?_)
    refine lv_if_eq (tgt := 284) S.1 S.2.1 dL_crosses_255 (by decide) (fun cq => ?_) (fun cq => ?_)
    · have h := d_t cq h
      cases h
    · have h := d_f cq h
      refine lv_aload_n S.1 S.2.1 dL_crosses_258 rfl (lv_at hl 0 rfl) ?_
      refine lv_iconst (v := 2) S.1 S.2.1 dL_crosses_259 (by decide) ?_
      refine lv_iconst (v := 2) S.1 S.2.1 dL_crosses_260 (by decide) ?_
      refine lv_sipush (v := 240) S.1 S.2.1 dL_crosses_261 (by decide) ?_
      refine lv_iconst (v := 0) S.1 S.2.1 dL_crosses_264 (by decide) ?_
      obtain ⟨q10, hc7, h⟩ := d_b h
      rcases q10 with q10 | q10
      · have h := d_s1 h
        cases h
      obtain ⟨v9, m8⟩ := q10
      have h := d_s2 h
      have h := d_p2 h
      refine dwxi (vx_runV (As := [.int 2, .int 2, .int 240, .int 0]) (rest := []) S (kX11_part l g hst hc7) (cwV 4 S.2.2.2.2 gL_crosses_X11_part rfl rfl rfl ynX11_part ⟨(Nat.le_of_ble_eq_true rfl), (Nat.le_of_ble_eq_true rfl)⟩) (dwV hE hP hS hb (ci := 11) rfl (dat12 dk_0)) rfl rfl hl.1 rfl (lv_room (Nat.le_of_ble_eq_true rfl)) dL_crosses_265 ⟨by omega, by omega⟩) rfl hE hS hb hKs hK (fun H hP hS hb hK => ?_)
      refine lv_iconst (v := 2) S.1 S.2.1 dL_crosses_268 (by decide) ?_
      refine lv_icmp_ne (tgt := 284) S.1 S.2.1 dL_crosses_269 (by decide) (fun cq => ?_) (fun cq => ?_)
      · have h := d_f cq h
        cases h
      · have h := d_t cq h
        refine lv_aload_n S.1 S.2.1 dL_crosses_272 rfl (lv_at hl 0 rfl) ?_
        refine lv_iconst (v := 2) S.1 S.2.1 dL_crosses_273 (by decide) ?_
        refine lv_iconst (v := 2) S.1 S.2.1 dL_crosses_274 (by decide) ?_
        refine lv_iconst (v := 1) S.1 S.2.1 dL_crosses_275 (by decide) ?_
        refine lv_iconst (v := 0) S.1 S.2.1 dL_crosses_276 (by decide) ?_
        refine lv_iconst (v := 1) S.1 S.2.1 dL_crosses_277 (by decide) ?_
        obtain ⟨m12, hc11, h⟩ := d_b h
        refine dwLi (vx_runS (As := [.ref (dad g 0), .int 2, .int 2, .int 1, .int 0, .int 1]) (rest := []) S (kL_fault l g hst hc11) (va_cwS 6 S.2.2.2.2 gL_crosses_L_fault rfl rfl rfl ynL_fault ⟨(Nat.le_of_ble_eq_true rfl), (Nat.le_of_ble_eq_true rfl)⟩) (dwS hE hP hS hb) rfl rfl hl.1 rfl (lv_room (Nat.le_of_ble_eq_true rfl)) dL_crosses_278 ⟨by omega, by omega⟩) hE hS hb hKs hK (fun H hP hS hb hK => ?_)
        refine lv_if_ne (tgt := 286) S.1 S.2.1 dL_crosses_281 (by decide) (fun cq => ?_) (fun cq => ?_)
        · obtain rfl := Option.some.inj h
          exact kk H ls _ _ (by omega) (by omega) hP hS hb hK (lv_sub hl [0] rfl)
        · exact absurd cq (by decide)
def fL_crossesp294 (m : dM) : Option dM := (fL_act m 0 0 2 0 0 0).bind (fun q => dP2 q (fun v3 m2 => if (lg_cmp v3 1) = 0 then (fX11_line m2 0 0 0 9 0).bind (fun q => dS q (fun _ => none) (fun q => dP2 q (fun v6 m5 => if v6 = 0 then (fX11_line m5 0 0 0 10 0).bind (fun q => dS q (fun _ => none) (fun q => dP2 q (fun v10 m9 => if v10 = 1 then (fX11_part m9 0 0 3 60 1).bind (fun q => dS q (fun _ => none) (fun q => dP2 q (fun v14 m13 => if v14 = 0 then (fL_fault m13 0 1 1 0 1).bind (fun m17 => (fL_act m17 0 8 0 1 3 60).bind (fun q => dP2 q (fun v21 m20 => if (lg_cmp v21 1) = 0 then (fL_fault m20 0 (-1) (-1) (-1) (-1)).bind (fun m23 => some m23) else none))) else none))) else none))) else none))) else none))
set_option maxHeartbeats 4000000 in
set_option maxRecDepth 100000 in
theorem kL_crossesp294 {p : Program} {l : Launch} {e : Env} {s : State} {mth : MethodId} {below : List Frame} {meth : Method} {c : Code} {g : dG} {Q : State → Prop} {H : Heap} {cells slots : Nat} {ls : Array Slot} {qo : Nat} {m m9 : dM} {K : Heap → Prop} (hst : l.stackTraces = false) (S : CallFix p mth c cL_crosses 2 s (([] : List Value).toArray) wsL_crosses RL) (hE : dEw g s) (hKs : ∀ H H1 : Heap, (∀ q, q < g.2.2.2 → H1[q]? = H[q]?) → K H → K H1) (hR : cells + 30 ≤ (headSpec wsL_crosses (dDm 12 249 2061 13792)).room.cells ∧ slots + 180 ≤ (headSpec wsL_crosses (dDm 12 249 2061 13792)).room.slots) (h : fL_crossesp294 m = some m9) (hP : va_P g.1 vwCl (dws g m) H) (hS : va_S (dAs s) s.heap H []) (hb : g.2.2.2 ≤ H.size) (hK : K H) (hl : lv_has ls 2 [(1, .ref (dad g 0)), (0, .ref qo)])
    (kk : ∀ (H : Heap) (ls : Array Slot) (cells2 slots2 : Nat), cells2 ≤ cells + 30 → slots2 ≤ slots + 180 → va_P g.1 vwCl (dws g m9) H → va_S (dAs s) s.heap H [] → g.2.2.2 ≤ H.size → K H → lv_has ls 2 [(1, .ref (dad g 0)), (0, .ref qo)] → W p l e (headSpec wsL_crosses (dDm 12 249 2061 13792)).room s mth (([] : List Value).toArray) below meth c H [] cells2 slots2 Q (F0 mth 387 ls [])) : W p l e (headSpec wsL_crosses (dDm 12 249 2061 13792)).room s mth (([] : List Value).toArray) below meth c H [] cells slots Q (F0 mth 294 ls []) := by
  obtain ⟨hR1, hR2⟩ := hR
  unfold fL_crossesp294 at h
  refine lv_aload_n S.1 S.2.1 dL_crosses_294 rfl (lv_at hl 0 rfl) ?_
  refine lv_iconst (v := 0) S.1 S.2.1 dL_crosses_295 (by decide) ?_
  refine lv_iconst (v := 2) S.1 S.2.1 dL_crosses_296 (by decide) ?_
  refine lv_iconst (v := 0) S.1 S.2.1 dL_crosses_297 (by decide) ?_
  refine lv_iconst (v := 0) S.1 S.2.1 dL_crosses_298 (by decide) ?_
  refine lv_iconst (v := 0) S.1 S.2.1 dL_crosses_299 (by decide) ?_
  obtain ⟨⟨v3, m2⟩, hc1, h⟩ := d_b h
  have h := d_p2 h
  refine dwLj (vx_runSX (As := [.ref (dad g 0), .int 0, .int 2, .int 0, .int 0, .int 0]) (rest := []) S (kL_act l g hst hc1) (vx_cwSW 6 S.2.2.2.2 gL_crosses_L_act rfl rfl rfl ynL_act ⟨(Nat.le_of_ble_eq_true rfl), (Nat.le_of_ble_eq_true rfl)⟩) (dwS hE hP hS hb) rfl rfl hl.1 rfl (lv_room (Nat.le_of_ble_eq_true rfl)) dL_crosses_300 ⟨by omega, by omega⟩) hE hS hb hKs hK (fun H hP hS hb hK => ?_)
  refine lv_lconst (v := 1) S.1 S.2.1 dL_crosses_303 (by decide) ?_
  refine W.lcmp S.1 S.2.1 dL_crosses_304 ?_
  refine lv_if_ne (tgt := 385) S.1 S.2.1 dL_crosses_305 (by decide) (fun cq => ?_) (fun cq => ?_)
  · have h := d_f cq h
    cases h
  · have h := d_t cq h
    refine lv_aload_n S.1 S.2.1 dL_crosses_308 rfl (lv_at hl 0 rfl) ?_
    refine lv_iconst (v := 0) S.1 S.2.1 dL_crosses_309 (by decide) ?_
    refine lv_iconst (v := 0) S.1 S.2.1 dL_crosses_310 (by decide) ?_
    refine lv_bipush (v := 9) S.1 S.2.1 dL_crosses_311 (by decide) ?_
    refine lv_iconst (v := 0) S.1 S.2.1 dL_crosses_313 (by decide) ?_
    obtain ⟨q7, hc4, h⟩ := d_b h
    rcases q7 with q7 | q7
    · have h := d_s1 h
      cases h
    obtain ⟨v6, m5⟩ := q7
    have h := d_s2 h
    have h := d_p2 h
    refine dwxi (vx_runV (As := [.int 0, .int 0, .int 9, .int 0]) (rest := []) S (kX11_line l g hst hc4) (cwV 4 S.2.2.2.2 gL_crosses_X11_line rfl rfl rfl ynX11_line ⟨(Nat.le_of_ble_eq_true rfl), (Nat.le_of_ble_eq_true rfl)⟩) (dwV hE hP hS hb (ci := 11) rfl (dat12 dk_0)) rfl rfl hl.1 rfl (lv_room (Nat.le_of_ble_eq_true rfl)) dL_crosses_314 ⟨by omega, by omega⟩) rfl hE hS hb hKs hK (fun H hP hS hb hK => ?_)
    refine lv_if_ne (tgt := 385) S.1 S.2.1 dL_crosses_317 (by decide) (fun cq => ?_) (fun cq => ?_)
    · have h := d_f cq h
      cases h
    · have h := d_t cq h
      refine lv_aload_n S.1 S.2.1 dL_crosses_320 rfl (lv_at hl 0 rfl) ?_
      refine lv_iconst (v := 0) S.1 S.2.1 dL_crosses_321 (by decide) ?_
      refine lv_iconst (v := 0) S.1 S.2.1 dL_crosses_322 (by decide) ?_
      refine lv_bipush (v := 10) S.1 S.2.1 dL_crosses_323 (by decide) ?_
      refine lv_iconst (v := 0) S.1 S.2.1 dL_crosses_325 (by decide) ?_
      obtain ⟨q11, hc8, h⟩ := d_b h
      rcases q11 with q11 | q11
      · have h := d_s1 h
        cases h
      obtain ⟨v10, m9⟩ := q11
      have h := d_s2 h
      have h := d_p2 h
      refine dwxi (vx_runV (As := [.int 0, .int 0, .int 10, .int 0]) (rest := []) S (kX11_line l g hst hc8) (cwV 4 S.2.2.2.2 gL_crosses_X11_line rfl rfl rfl ynX11_line ⟨(Nat.le_of_ble_eq_true rfl), (Nat.le_of_ble_eq_true rfl)⟩) (dwV hE hP hS hb (ci := 11) rfl (dat12 dk_0)) rfl rfl hl.1 rfl (lv_room (Nat.le_of_ble_eq_true rfl)) dL_crosses_326 ⟨by omega, by omega⟩) rfl hE hS hb hKs hK (fun H hP hS hb hK => ?_)
      refine lv_iconst (v := 1) S.1 S.2.1 dL_crosses_329 (by decide) ?_
      refine lv_icmp_ne (tgt := 385) S.1 S.2.1 dL_crosses_330 (by decide) (fun cq => ?_) (fun cq => ?_)
      · have h := d_f cq h
        cases h
      · have h := d_t cq h
        refine lv_aload_n S.1 S.2.1 dL_crosses_333 rfl (lv_at hl 0 rfl) ?_
        refine lv_iconst (v := 0) S.1 S.2.1 dL_crosses_334 (by decide) ?_
        refine lv_iconst (v := 3) S.1 S.2.1 dL_crosses_335 (by decide) ?_
        refine lv_bipush (v := 60) S.1 S.2.1 dL_crosses_336 (by decide) ?_
        refine lv_iconst (v := 1) S.1 S.2.1 dL_crosses_338 (by decide) ?_
        obtain ⟨q15, hc12, h⟩ := d_b h
        rcases q15 with q15 | q15
        · have h := d_s1 h
          cases h
        obtain ⟨v14, m13⟩ := q15
        have h := d_s2 h
        have h := d_p2 h
        refine dwxi (vx_runV (As := [.int 0, .int 3, .int 60, .int 1]) (rest := []) S (kX11_part l g hst hc12) (cwV 4 S.2.2.2.2 gL_crosses_X11_part rfl rfl rfl ynX11_part ⟨(Nat.le_of_ble_eq_true rfl), (Nat.le_of_ble_eq_true rfl)⟩) (dwV hE hP hS hb (ci := 11) rfl (dat12 dk_0)) rfl rfl hl.1 rfl (lv_room (Nat.le_of_ble_eq_true rfl)) dL_crosses_339 ⟨by omega, by omega⟩) rfl hE hS hb hKs hK (fun H hP hS hb hK => ?_)
        refine lv_if_ne (tgt := 385) S.1 S.2.1 dL_crosses_342 (by decide) (fun cq => ?_) (fun cq => ?_)
        · have h := d_f cq h
          cases h
        · have h := d_t cq h
          refine lv_aload_n S.1 S.2.1 dL_crosses_345 rfl (lv_at hl 0 rfl) ?_
          refine lv_iconst (v := 0) S.1 S.2.1 dL_crosses_346 (by decide) ?_
          refine lv_iconst (v := 1) S.1 S.2.1 dL_crosses_347 (by decide) ?_
          refine lv_iconst (v := 1) S.1 S.2.1 dL_crosses_348 (by decide) ?_
          refine lv_iconst (v := 0) S.1 S.2.1 dL_crosses_349 (by decide) ?_
          refine lv_iconst (v := 1) S.1 S.2.1 dL_crosses_350 (by decide) ?_
          obtain ⟨m17, hc16, h⟩ := d_b h
          refine dwLi (vx_runS (As := [.ref (dad g 0), .int 0, .int 1, .int 1, .int 0, .int 1]) (rest := []) S (kL_fault l g hst hc16) (va_cwS 6 S.2.2.2.2 gL_crosses_L_fault rfl rfl rfl ynL_fault ⟨(Nat.le_of_ble_eq_true rfl), (Nat.le_of_ble_eq_true rfl)⟩) (dwS hE hP hS hb) rfl rfl hl.1 rfl (lv_room (Nat.le_of_ble_eq_true rfl)) dL_crosses_351 ⟨by omega, by omega⟩) hE hS hb hKs hK (fun H hP hS hb hK => ?_)
          refine lv_if_eq (tgt := 385) S.1 S.2.1 dL_crosses_354 (by decide) (fun cq => ?_) (fun cq => ?_)
          · exact absurd cq (by decide)
          · refine lv_aload_n S.1 S.2.1 dL_crosses_357 rfl (lv_at hl 0 rfl) ?_
            refine lv_bipush (v := 8) S.1 S.2.1 dL_crosses_358 (by decide) ?_
            refine lv_iconst (v := 0) S.1 S.2.1 dL_crosses_360 (by decide) ?_
            refine lv_iconst (v := 1) S.1 S.2.1 dL_crosses_361 (by decide) ?_
            refine lv_iconst (v := 3) S.1 S.2.1 dL_crosses_362 (by decide) ?_
            refine lv_bipush (v := 60) S.1 S.2.1 dL_crosses_363 (by decide) ?_
            obtain ⟨⟨v21, m20⟩, hc19, h⟩ := d_b h
            have h := d_p2 h
            refine dwLj (vx_runSX (As := [.ref (dad g 0), .int 8, .int 0, .int 1, .int 3, .int 60]) (rest := []) S (kL_act l g hst hc19) (vx_cwSW 6 S.2.2.2.2 gL_crosses_L_act rfl rfl rfl ynL_act ⟨(Nat.le_of_ble_eq_true rfl), (Nat.le_of_ble_eq_true rfl)⟩) (dwS hE hP hS hb) rfl rfl hl.1 rfl (lv_room (Nat.le_of_ble_eq_true rfl)) dL_crosses_365 ⟨by omega, by omega⟩) hE hS hb hKs hK (fun H hP hS hb hK => ?_)
            refine lv_lconst (v := 1) S.1 S.2.1 dL_crosses_368 (by decide) ?_
            refine W.lcmp S.1 S.2.1 dL_crosses_369 ?_
            refine lv_if_ne (tgt := 385) S.1 S.2.1 dL_crosses_370 (by decide) (fun cq => ?_) (fun cq => ?_)
            · have h := d_f cq h
              cases h
            · have h := d_t cq h
              refine lv_aload_n S.1 S.2.1 dL_crosses_373 rfl (lv_at hl 0 rfl) ?_
              refine lv_iconst (v := 0) S.1 S.2.1 dL_crosses_374 (by decide) ?_
              refine lv_iconst (v := (-1)) S.1 S.2.1 dL_crosses_375 (by decide) ?_
              refine lv_iconst (v := (-1)) S.1 S.2.1 dL_crosses_376 (by decide) ?_
              refine lv_iconst (v := (-1)) S.1 S.2.1 dL_crosses_377 (by decide) ?_
              refine lv_iconst (v := (-1)) S.1 S.2.1 dL_crosses_378 (by decide) ?_
              obtain ⟨m23, hc22, h⟩ := d_b h
              refine dwLi (vx_runS (As := [.ref (dad g 0), .int 0, .int (-1), .int (-1), .int (-1), .int (-1)]) (rest := []) S (kL_fault l g hst hc22) (va_cwS 6 S.2.2.2.2 gL_crosses_L_fault rfl rfl rfl ynL_fault ⟨(Nat.le_of_ble_eq_true rfl), (Nat.le_of_ble_eq_true rfl)⟩) (dwS hE hP hS hb) rfl rfl hl.1 rfl (lv_room (Nat.le_of_ble_eq_true rfl)) dL_crosses_379 ⟨by omega, by omega⟩) hE hS hb hKs hK (fun H hP hS hb hK => ?_)
              refine lv_if_ne (tgt := 387) S.1 S.2.1 dL_crosses_382 (by decide) (fun cq => ?_) (fun cq => ?_)
              · obtain rfl := Option.some.inj h
                exact kk H ls _ _ (by omega) (by omega) hP hS hb hK (lv_sub hl [0, 1] rfl)
              · exact absurd cq (by decide)
def fL_crosses387 (m : dM) : Option dM := (fX11_phase m 0 0 0 0 (-6)).bind (fun q => dS q (fun _ => none) (fun q => dP2 q (fun v3 m2 => if v3 = 2 then (fX11_phase m2 0 0 8 20 (-6)).bind (fun q => dS q (fun _ => none) (fun q => dP2 q (fun v7 m6 => if v7 = 2 then (fX11_phase m6 0 0 3 10 (-50)).bind (fun q => dS q (fun _ => none) (fun q => dP2 q (fun v11 m10 => if v11 = 0 then (fX11_phase m10 0 0 0 1600 (-1000)).bind (fun q => dS q (fun _ => none) (fun q => dP2 q (fun v15 m14 => if v15 = 3 then (fX11_ill m14 0 0 1).bind (fun q => dS q (fun _ => none) (fun q => dP2 q (fun v19 m18 => if v19 = 0 then (fX11_phase m18 0 0 0 0 (-6)).bind (fun q => dS q (fun _ => none) (fun q => dP2 q (fun v23 m22 => if v23 = 0 then (fX11_ill m22 0 1 1).bind (fun q => dS q (fun _ => none) (fun q => dP2 q (fun v27 m26 => if v27 = 0 then (fX11_phase m26 0 0 0 0 (-6)).bind (fun q => dS q (fun _ => none) (fun q => dP2 q (fun v31 m30 => if v31 = 0 then (fL_toss m30 0 0 0 0 1 0).bind (fun q => dP2 q (fun v35 m34 => if v35 = (-73) then some m34 else none)) else none))) else none))) else none))) else none))) else none))) else none))) else none))) else none)))
set_option maxHeartbeats 4000000 in
set_option maxRecDepth 100000 in
theorem kL_crosses387 {p : Program} {l : Launch} {e : Env} {s : State} {mth : MethodId} {below : List Frame} {meth : Method} {c : Code} {g : dG} {Q : State → Prop} {H : Heap} {cells slots : Nat} {ls : Array Slot} {m m9 : dM} {K : Heap → Prop} (hst : l.stackTraces = false) (S : CallFix p mth c cL_crosses 2 s (([] : List Value).toArray) wsL_crosses RL) (hE : dEw g s) (hKs : ∀ H H1 : Heap, (∀ q, q < g.2.2.2 → H1[q]? = H[q]?) → K H → K H1) (hR : cells + 32 ≤ (headSpec wsL_crosses (dDm 12 249 2061 13792)).room.cells ∧ slots + 192 ≤ (headSpec wsL_crosses (dDm 12 249 2061 13792)).room.slots) (h : fL_crosses387 m = some m9) (hP : va_P g.1 vwCl (dws g m) H) (hS : va_S (dAs s) s.heap H []) (hb : g.2.2.2 ≤ H.size) (hK : K H) (hl : lv_has ls 2 [(0, .ref (dad g 0))])
    (kk : ∀ (H : Heap) (ls : Array Slot) (cells2 slots2 : Nat), cells2 ≤ cells + 32 → slots2 ≤ slots + 192 → va_P g.1 vwCl (dws g m9) H → va_S (dAs s) s.heap H [] → g.2.2.2 ≤ H.size → K H → lv_has ls 2 [(0, .ref (dad g 0))] → W p l e (headSpec wsL_crosses (dDm 12 249 2061 13792)).room s mth (([] : List Value).toArray) below meth c H [] cells2 slots2 Q (F0 mth 500 ls [])) : W p l e (headSpec wsL_crosses (dDm 12 249 2061 13792)).room s mth (([] : List Value).toArray) below meth c H [] cells slots Q (F0 mth 387 ls []) := by
  obtain ⟨hR1, hR2⟩ := hR
  unfold fL_crosses387 at h
  refine lv_aload_n S.1 S.2.1 dL_crosses_387 rfl (lv_at hl 0 rfl) ?_
  refine lv_iconst (v := 0) S.1 S.2.1 dL_crosses_388 (by decide) ?_
  refine lv_iconst (v := 0) S.1 S.2.1 dL_crosses_389 (by decide) ?_
  refine lv_iconst (v := 0) S.1 S.2.1 dL_crosses_390 (by decide) ?_
  refine lv_bipush (v := (-6)) S.1 S.2.1 dL_crosses_391 (by decide) ?_
  obtain ⟨q4, hc1, h⟩ := d_b h
  rcases q4 with q4 | q4
  · have h := d_s1 h
    cases h
  obtain ⟨v3, m2⟩ := q4
  have h := d_s2 h
  have h := d_p2 h
  refine dwxi (vx_runV (As := [.int 0, .int 0, .int 0, .int (-6)]) (rest := []) S (kX11_phase l g hst hc1) (cwV 4 S.2.2.2.2 gL_crosses_X11_phase rfl rfl rfl ynX11_phase ⟨(Nat.le_of_ble_eq_true rfl), (Nat.le_of_ble_eq_true rfl)⟩) (dwV hE hP hS hb (ci := 11) rfl (dat12 dk_0)) rfl rfl hl.1 rfl (lv_room (Nat.le_of_ble_eq_true rfl)) dL_crosses_393 ⟨by omega, by omega⟩) rfl hE hS hb hKs hK (fun H hP hS hb hK => ?_)
  refine lv_iconst (v := 2) S.1 S.2.1 dL_crosses_396 (by decide) ?_
  refine lv_icmp_ne (tgt := 518) S.1 S.2.1 dL_crosses_397 (by decide) (fun cq => ?_) (fun cq => ?_)
  · have h := d_f cq h
    cases h
  · have h := d_t cq h
    refine lv_aload_n S.1 S.2.1 dL_crosses_400 rfl (lv_at hl 0 rfl) ?_
    refine lv_iconst (v := 0) S.1 S.2.1 dL_crosses_401 (by decide) ?_
    refine lv_bipush (v := 8) S.1 S.2.1 dL_crosses_402 (by decide) ?_
    refine lv_bipush (v := 20) S.1 S.2.1 dL_crosses_404 (by decide) ?_
    refine lv_bipush (v := (-6)) S.1 S.2.1 dL_crosses_406 (by decide) ?_
    obtain ⟨q8, hc5, h⟩ := d_b h
    rcases q8 with q8 | q8
    · have h := d_s1 h
      cases h
    obtain ⟨v7, m6⟩ := q8
    have h := d_s2 h
    have h := d_p2 h
    refine dwxi (vx_runV (As := [.int 0, .int 8, .int 20, .int (-6)]) (rest := []) S (kX11_phase l g hst hc5) (cwV 4 S.2.2.2.2 gL_crosses_X11_phase rfl rfl rfl ynX11_phase ⟨(Nat.le_of_ble_eq_true rfl), (Nat.le_of_ble_eq_true rfl)⟩) (dwV hE hP hS hb (ci := 11) rfl (dat12 dk_0)) rfl rfl hl.1 rfl (lv_room (Nat.le_of_ble_eq_true rfl)) dL_crosses_408 ⟨by omega, by omega⟩) rfl hE hS hb hKs hK (fun H hP hS hb hK => ?_)
    refine lv_iconst (v := 2) S.1 S.2.1 dL_crosses_411 (by decide) ?_
    refine lv_icmp_ne (tgt := 518) S.1 S.2.1 dL_crosses_412 (by decide) (fun cq => ?_) (fun cq => ?_)
    · have h := d_f cq h
      cases h
    · have h := d_t cq h
      refine lv_aload_n S.1 S.2.1 dL_crosses_415 rfl (lv_at hl 0 rfl) ?_
      refine lv_iconst (v := 0) S.1 S.2.1 dL_crosses_416 (by decide) ?_
      refine lv_iconst (v := 3) S.1 S.2.1 dL_crosses_417 (by decide) ?_
      refine lv_bipush (v := 10) S.1 S.2.1 dL_crosses_418 (by decide) ?_
      refine lv_bipush (v := (-50)) S.1 S.2.1 dL_crosses_420 (by decide) ?_
      obtain ⟨q12, hc9, h⟩ := d_b h
      rcases q12 with q12 | q12
      · have h := d_s1 h
        cases h
      obtain ⟨v11, m10⟩ := q12
      have h := d_s2 h
      have h := d_p2 h
      refine dwxi (vx_runV (As := [.int 0, .int 3, .int 10, .int (-50)]) (rest := []) S (kX11_phase l g hst hc9) (cwV 4 S.2.2.2.2 gL_crosses_X11_phase rfl rfl rfl ynX11_phase ⟨(Nat.le_of_ble_eq_true rfl), (Nat.le_of_ble_eq_true rfl)⟩) (dwV hE hP hS hb (ci := 11) rfl (dat12 dk_0)) rfl rfl hl.1 rfl (lv_room (Nat.le_of_ble_eq_true rfl)) dL_crosses_422 ⟨by omega, by omega⟩) rfl hE hS hb hKs hK (fun H hP hS hb hK => ?_)
      refine lv_if_ne (tgt := 518) S.1 S.2.1 dL_crosses_425 (by decide) (fun cq => ?_) (fun cq => ?_)
      · have h := d_f cq h
        cases h
      · have h := d_t cq h
        refine lv_aload_n S.1 S.2.1 dL_crosses_428 rfl (lv_at hl 0 rfl) ?_
        refine lv_iconst (v := 0) S.1 S.2.1 dL_crosses_429 (by decide) ?_
        refine lv_iconst (v := 0) S.1 S.2.1 dL_crosses_430 (by decide) ?_
        refine lv_sipush (v := 1600) S.1 S.2.1 dL_crosses_431 (by decide) ?_
        refine lv_sipush (v := (-1000)) S.1 S.2.1 dL_crosses_434 (by decide) ?_
        obtain ⟨q16, hc13, h⟩ := d_b h
        rcases q16 with q16 | q16
        · have h := d_s1 h
          cases h
        obtain ⟨v15, m14⟩ := q16
        have h := d_s2 h
        have h := d_p2 h
        refine dwxi (vx_runV (As := [.int 0, .int 0, .int 1600, .int (-1000)]) (rest := []) S (kX11_phase l g hst hc13) (cwV 4 S.2.2.2.2 gL_crosses_X11_phase rfl rfl rfl ynX11_phase ⟨(Nat.le_of_ble_eq_true rfl), (Nat.le_of_ble_eq_true rfl)⟩) (dwV hE hP hS hb (ci := 11) rfl (dat12 dk_0)) rfl rfl hl.1 rfl (lv_room (Nat.le_of_ble_eq_true rfl)) dL_crosses_437 ⟨by omega, by omega⟩) rfl hE hS hb hKs hK (fun H hP hS hb hK => ?_)
        refine lv_iconst (v := 3) S.1 S.2.1 dL_crosses_440 (by decide) ?_
        refine lv_icmp_ne (tgt := 518) S.1 S.2.1 dL_crosses_441 (by decide) (fun cq => ?_) (fun cq => ?_)
        · have h := d_f cq h
          cases h
        · have h := d_t cq h
          refine lv_aload_n S.1 S.2.1 dL_crosses_444 rfl (lv_at hl 0 rfl) ?_
          refine lv_iconst (v := 0) S.1 S.2.1 dL_crosses_445 (by decide) ?_
          refine lv_iconst (v := 1) S.1 S.2.1 dL_crosses_446 (by decide) ?_
          obtain ⟨q20, hc17, h⟩ := d_b h
          rcases q20 with q20 | q20
          · have h := d_s1 h
            cases h
          obtain ⟨v19, m18⟩ := q20
          have h := d_s2 h
          have h := d_p2 h
          refine dwxi (vx_runV (As := [.int 0, .int 1]) (rest := []) S (kX11_ill l g hst hc17) (cwV 2 S.2.2.2.2 gL_crosses_X11_ill rfl rfl rfl ynX11_ill ⟨(Nat.le_of_ble_eq_true rfl), (Nat.le_of_ble_eq_true rfl)⟩) (dwV hE hP hS hb (ci := 11) rfl (dat12 dk_0)) rfl rfl hl.1 rfl (lv_room (Nat.le_of_ble_eq_true rfl)) dL_crosses_447 ⟨by omega, by omega⟩) rfl hE hS hb hKs hK (fun H hP hS hb hK => ?_)
          refine lv_if_ne (tgt := 518) S.1 S.2.1 dL_crosses_450 (by decide) (fun cq => ?_) (fun cq => ?_)
          · have h := d_f cq h
            cases h
          · have h := d_t cq h
            refine lv_aload_n S.1 S.2.1 dL_crosses_453 rfl (lv_at hl 0 rfl) ?_
            refine lv_iconst (v := 0) S.1 S.2.1 dL_crosses_454 (by decide) ?_
            refine lv_iconst (v := 0) S.1 S.2.1 dL_crosses_455 (by decide) ?_
            refine lv_iconst (v := 0) S.1 S.2.1 dL_crosses_456 (by decide) ?_
            refine lv_bipush (v := (-6)) S.1 S.2.1 dL_crosses_457 (by decide) ?_
            obtain ⟨q24, hc21, h⟩ := d_b h
            rcases q24 with q24 | q24
            · have h := d_s1 h
              cases h
            obtain ⟨v23, m22⟩ := q24
            have h := d_s2 h
            have h := d_p2 h
            refine dwxi (vx_runV (As := [.int 0, .int 0, .int 0, .int (-6)]) (rest := []) S (kX11_phase l g hst hc21) (cwV 4 S.2.2.2.2 gL_crosses_X11_phase rfl rfl rfl ynX11_phase ⟨(Nat.le_of_ble_eq_true rfl), (Nat.le_of_ble_eq_true rfl)⟩) (dwV hE hP hS hb (ci := 11) rfl (dat12 dk_0)) rfl rfl hl.1 rfl (lv_room (Nat.le_of_ble_eq_true rfl)) dL_crosses_459 ⟨by omega, by omega⟩) rfl hE hS hb hKs hK (fun H hP hS hb hK => ?_)
            refine lv_if_ne (tgt := 518) S.1 S.2.1 dL_crosses_462 (by decide) (fun cq => ?_) (fun cq => ?_)
            · have h := d_f cq h
              cases h
            · have h := d_t cq h
              refine lv_aload_n S.1 S.2.1 dL_crosses_465 rfl (lv_at hl 0 rfl) ?_
              refine lv_iconst (v := 1) S.1 S.2.1 dL_crosses_466 (by decide) ?_
              refine lv_iconst (v := 1) S.1 S.2.1 dL_crosses_467 (by decide) ?_
              obtain ⟨q28, hc25, h⟩ := d_b h
              rcases q28 with q28 | q28
              · have h := d_s1 h
                cases h
              obtain ⟨v27, m26⟩ := q28
              have h := d_s2 h
              have h := d_p2 h
              refine dwxi (vx_runV (As := [.int 1, .int 1]) (rest := []) S (kX11_ill l g hst hc25) (cwV 2 S.2.2.2.2 gL_crosses_X11_ill rfl rfl rfl ynX11_ill ⟨(Nat.le_of_ble_eq_true rfl), (Nat.le_of_ble_eq_true rfl)⟩) (dwV hE hP hS hb (ci := 11) rfl (dat12 dk_0)) rfl rfl hl.1 rfl (lv_room (Nat.le_of_ble_eq_true rfl)) dL_crosses_468 ⟨by omega, by omega⟩) rfl hE hS hb hKs hK (fun H hP hS hb hK => ?_)
              refine lv_if_ne (tgt := 518) S.1 S.2.1 dL_crosses_471 (by decide) (fun cq => ?_) (fun cq => ?_)
              · have h := d_f cq h
                cases h
              · have h := d_t cq h
                refine lv_aload_n S.1 S.2.1 dL_crosses_474 rfl (lv_at hl 0 rfl) ?_
                refine lv_iconst (v := 0) S.1 S.2.1 dL_crosses_475 (by decide) ?_
                refine lv_iconst (v := 0) S.1 S.2.1 dL_crosses_476 (by decide) ?_
                refine lv_iconst (v := 0) S.1 S.2.1 dL_crosses_477 (by decide) ?_
                refine lv_bipush (v := (-6)) S.1 S.2.1 dL_crosses_478 (by decide) ?_
                obtain ⟨q32, hc29, h⟩ := d_b h
                rcases q32 with q32 | q32
                · have h := d_s1 h
                  cases h
                obtain ⟨v31, m30⟩ := q32
                have h := d_s2 h
                have h := d_p2 h
                refine dwxi (vx_runV (As := [.int 0, .int 0, .int 0, .int (-6)]) (rest := []) S (kX11_phase l g hst hc29) (cwV 4 S.2.2.2.2 gL_crosses_X11_phase rfl rfl rfl ynX11_phase ⟨(Nat.le_of_ble_eq_true rfl), (Nat.le_of_ble_eq_true rfl)⟩) (dwV hE hP hS hb (ci := 11) rfl (dat12 dk_0)) rfl rfl hl.1 rfl (lv_room (Nat.le_of_ble_eq_true rfl)) dL_crosses_480 ⟨by omega, by omega⟩) rfl hE hS hb hKs hK (fun H hP hS hb hK => ?_)
                refine lv_if_ne (tgt := 518) S.1 S.2.1 dL_crosses_483 (by decide) (fun cq => ?_) (fun cq => ?_)
                · have h := d_f cq h
                  cases h
                · have h := d_t cq h
                  refine lv_aload_n S.1 S.2.1 dL_crosses_486 rfl (lv_at hl 0 rfl) ?_
                  refine lv_iconst (v := 0) S.1 S.2.1 dL_crosses_487 (by decide) ?_
                  refine lv_iconst (v := 0) S.1 S.2.1 dL_crosses_488 (by decide) ?_
                  refine lv_iconst (v := 0) S.1 S.2.1 dL_crosses_489 (by decide) ?_
                  refine lv_iconst (v := 1) S.1 S.2.1 dL_crosses_490 (by decide) ?_
                  refine lv_iconst (v := 0) S.1 S.2.1 dL_crosses_491 (by decide) ?_
                  obtain ⟨⟨v35, m34⟩, hc33, h⟩ := d_b h
                  have h := d_p2 h
                  refine dwLi (vx_runSX (As := [.ref (dad g 0), .int 0, .int 0, .int 0, .int 1, .int 0]) (rest := []) S (kL_toss l g hst hc33) (vx_cwSW 6 S.2.2.2.2 gL_crosses_L_toss rfl rfl rfl ynL_toss ⟨(Nat.le_of_ble_eq_true rfl), (Nat.le_of_ble_eq_true rfl)⟩) (dwS hE hP hS hb) rfl rfl hl.1 rfl (lv_room (Nat.le_of_ble_eq_true rfl)) dL_crosses_492 ⟨by omega, by omega⟩) hE hS hb hKs hK (fun H hP hS hb hK => ?_)
                  refine lv_bipush (v := (-73)) S.1 S.2.1 dL_crosses_495 (by decide) ?_
                  refine lv_icmp_ne (tgt := 518) S.1 S.2.1 dL_crosses_497 (by decide) (fun cq => ?_) (fun cq => ?_)
                  · have h := d_f cq h
                    cases h
                  · have h := d_t cq h
                    obtain rfl := Option.some.inj h
                    exact kk H ls _ _ (by omega) (by omega) hP hS hb hK (lv_sub hl [0] rfl)
def fL_crosses500 (m : dM) : Option dM := (fX11_ill m 0 0 0).bind (fun q => dS q (fun _ => none) (fun q => dP2 q (fun v3 m2 => if v3 = 0 then none else (fX11_ill m2 0 1 0).bind (fun q => dS q (fun _ => none) (fun q => dP2 q (fun v7 m6 => if v7 = 0 then none else (fL_toss m6 0 0 0 0 9 1).bind (fun q => dP2 q (fun v11 m10 => if v11 = 1 then (fL_toss m10 0 0 0 0 9 2).bind (fun q => dP2 q (fun v14 m13 => if v14 = 0 then (fL_toss m13 0 0 8 0 5 (-2)).bind (fun q => dP2 q (fun v17 m16 => if v17 = 1 then (fL_toss m16 0 0 8 0 5 (-3)).bind (fun q => dP2 q (fun v20 m19 => if v20 = 0 then (fL_toss m19 0 1 0 0 1 0).bind (fun q => dP2 q (fun v23 m22 => if v23 = 0 then (fX11_page m22 0 0 1 0).bind (fun q => dS q (fun _ => none) (fun q => dP2 q (fun v26 m25 => if v26 = 0 then (fX11_page m25 0 0 1 1).bind (fun q => dS q (fun _ => none) (fun q => dP2 q (fun v30 m29 => if v30 = 20 then some m29 else none))) else none))) else none)) else none)) else none)) else none)) else none))))))))
set_option maxHeartbeats 4000000 in
set_option maxRecDepth 100000 in
theorem kL_crosses500 {p : Program} {l : Launch} {e : Env} {s : State} {mth : MethodId} {below : List Frame} {meth : Method} {c : Code} {g : dG} {Q : State → Prop} {H : Heap} {cells slots : Nat} {ls : Array Slot} {m m9 : dM} {K : Heap → Prop} (hst : l.stackTraces = false) (S : CallFix p mth c cL_crosses 2 s (([] : List Value).toArray) wsL_crosses RL) (hE : dEw g s) (hKs : ∀ H H1 : Heap, (∀ q, q < g.2.2.2 → H1[q]? = H[q]?) → K H → K H1) (hR : cells + 38 ≤ (headSpec wsL_crosses (dDm 12 249 2061 13792)).room.cells ∧ slots + 228 ≤ (headSpec wsL_crosses (dDm 12 249 2061 13792)).room.slots) (h : fL_crosses500 m = some m9) (hP : va_P g.1 vwCl (dws g m) H) (hS : va_S (dAs s) s.heap H []) (hb : g.2.2.2 ≤ H.size) (hK : K H) (hl : lv_has ls 2 [(0, .ref (dad g 0))])
    (kk : ∀ (H : Heap) (ls : Array Slot) (cells2 slots2 : Nat), cells2 ≤ cells + 38 → slots2 ≤ slots + 228 → va_P g.1 vwCl (dws g m9) H → va_S (dAs s) s.heap H [] → g.2.2.2 ≤ H.size → K H → lv_has ls 2 [(0, .ref (dad g 0))] → W p l e (headSpec wsL_crosses (dDm 12 249 2061 13792)).room s mth (([] : List Value).toArray) below meth c H [] cells2 slots2 Q (F0 mth 610 ls [])) : W p l e (headSpec wsL_crosses (dDm 12 249 2061 13792)).room s mth (([] : List Value).toArray) below meth c H [] cells slots Q (F0 mth 500 ls []) := by
  obtain ⟨hR1, hR2⟩ := hR
  unfold fL_crosses500 at h
  refine lv_aload_n S.1 S.2.1 dL_crosses_500 rfl (lv_at hl 0 rfl) ?_
  refine lv_iconst (v := 0) S.1 S.2.1 dL_crosses_501 (by decide) ?_
  refine lv_iconst (v := 0) S.1 S.2.1 dL_crosses_502 (by decide) ?_
  obtain ⟨q4, hc1, h⟩ := d_b h
  rcases q4 with q4 | q4
  · have h := d_s1 h
    cases h
  obtain ⟨v3, m2⟩ := q4
  have h := d_s2 h
  have h := d_p2 h
  refine dwxi (vx_runV (As := [.int 0, .int 0]) (rest := []) S (kX11_ill l g hst hc1) (cwV 2 S.2.2.2.2 gL_crosses_X11_ill rfl rfl rfl ynX11_ill ⟨(Nat.le_of_ble_eq_true rfl), (Nat.le_of_ble_eq_true rfl)⟩) (dwV hE hP hS hb (ci := 11) rfl (dat12 dk_0)) rfl rfl hl.1 rfl (lv_room (Nat.le_of_ble_eq_true rfl)) dL_crosses_503 ⟨by omega, by omega⟩) rfl hE hS hb hKs hK (fun H hP hS hb hK => ?_)
  refine lv_if_eq (tgt := 518) S.1 S.2.1 dL_crosses_506 (by decide) (fun cq => ?_) (fun cq => ?_)
  · have h := d_t cq h
    cases h
  · have h := d_f cq h
    refine lv_aload_n S.1 S.2.1 dL_crosses_509 rfl (lv_at hl 0 rfl) ?_
    refine lv_iconst (v := 1) S.1 S.2.1 dL_crosses_510 (by decide) ?_
    refine lv_iconst (v := 0) S.1 S.2.1 dL_crosses_511 (by decide) ?_
    obtain ⟨q8, hc5, h⟩ := d_b h
    rcases q8 with q8 | q8
    · have h := d_s1 h
      cases h
    obtain ⟨v7, m6⟩ := q8
    have h := d_s2 h
    have h := d_p2 h
    refine dwxi (vx_runV (As := [.int 1, .int 0]) (rest := []) S (kX11_ill l g hst hc5) (cwV 2 S.2.2.2.2 gL_crosses_X11_ill rfl rfl rfl ynX11_ill ⟨(Nat.le_of_ble_eq_true rfl), (Nat.le_of_ble_eq_true rfl)⟩) (dwV hE hP hS hb (ci := 11) rfl (dat12 dk_0)) rfl rfl hl.1 rfl (lv_room (Nat.le_of_ble_eq_true rfl)) dL_crosses_512 ⟨by omega, by omega⟩) rfl hE hS hb hKs hK (fun H hP hS hb hK => ?_)
    refine lv_if_ne (tgt := 520) S.1 S.2.1 dL_crosses_515 (by decide) (fun cq => ?_) (fun cq => ?_)
    · have h := d_f cq h
      refine lv_aload_n S.1 S.2.1 dL_crosses_520 rfl (lv_at hl 0 rfl) ?_
      refine lv_iconst (v := 0) S.1 S.2.1 dL_crosses_521 (by decide) ?_
      refine lv_iconst (v := 0) S.1 S.2.1 dL_crosses_522 (by decide) ?_
      refine lv_iconst (v := 0) S.1 S.2.1 dL_crosses_523 (by decide) ?_
      refine lv_bipush (v := 9) S.1 S.2.1 dL_crosses_524 (by decide) ?_
      refine lv_iconst (v := 1) S.1 S.2.1 dL_crosses_526 (by decide) ?_
      obtain ⟨⟨v11, m10⟩, hc9, h⟩ := d_b h
      have h := d_p2 h
      refine dwLi (vx_runSX (As := [.ref (dad g 0), .int 0, .int 0, .int 0, .int 9, .int 1]) (rest := []) S (kL_toss l g hst hc9) (vx_cwSW 6 S.2.2.2.2 gL_crosses_L_toss rfl rfl rfl ynL_toss ⟨(Nat.le_of_ble_eq_true rfl), (Nat.le_of_ble_eq_true rfl)⟩) (dwS hE hP hS hb) rfl rfl hl.1 rfl (lv_room (Nat.le_of_ble_eq_true rfl)) dL_crosses_527 ⟨by omega, by omega⟩) hE hS hb hKs hK (fun H hP hS hb hK => ?_)
      refine lv_iconst (v := 1) S.1 S.2.1 dL_crosses_530 (by decide) ?_
      refine lv_icmp_ne (tgt := 735) S.1 S.2.1 dL_crosses_531 (by decide) (fun cq => ?_) (fun cq => ?_)
      · have h := d_f cq h
        cases h
      · have h := d_t cq h
        refine lv_aload_n S.1 S.2.1 dL_crosses_534 rfl (lv_at hl 0 rfl) ?_
        refine lv_iconst (v := 0) S.1 S.2.1 dL_crosses_535 (by decide) ?_
        refine lv_iconst (v := 0) S.1 S.2.1 dL_crosses_536 (by decide) ?_
        refine lv_iconst (v := 0) S.1 S.2.1 dL_crosses_537 (by decide) ?_
        refine lv_bipush (v := 9) S.1 S.2.1 dL_crosses_538 (by decide) ?_
        refine lv_iconst (v := 2) S.1 S.2.1 dL_crosses_540 (by decide) ?_
        obtain ⟨⟨v14, m13⟩, hc12, h⟩ := d_b h
        have h := d_p2 h
        refine dwLi (vx_runSX (As := [.ref (dad g 0), .int 0, .int 0, .int 0, .int 9, .int 2]) (rest := []) S (kL_toss l g hst hc12) (vx_cwSW 6 S.2.2.2.2 gL_crosses_L_toss rfl rfl rfl ynL_toss ⟨(Nat.le_of_ble_eq_true rfl), (Nat.le_of_ble_eq_true rfl)⟩) (dwS hE hP hS hb) rfl rfl hl.1 rfl (lv_room (Nat.le_of_ble_eq_true rfl)) dL_crosses_541 ⟨by omega, by omega⟩) hE hS hb hKs hK (fun H hP hS hb hK => ?_)
        refine lv_if_ne (tgt := 735) S.1 S.2.1 dL_crosses_544 (by decide) (fun cq => ?_) (fun cq => ?_)
        · have h := d_f cq h
          cases h
        · have h := d_t cq h
          refine lv_aload_n S.1 S.2.1 dL_crosses_547 rfl (lv_at hl 0 rfl) ?_
          refine lv_iconst (v := 0) S.1 S.2.1 dL_crosses_548 (by decide) ?_
          refine lv_bipush (v := 8) S.1 S.2.1 dL_crosses_549 (by decide) ?_
          refine lv_iconst (v := 0) S.1 S.2.1 dL_crosses_551 (by decide) ?_
          refine lv_iconst (v := 5) S.1 S.2.1 dL_crosses_552 (by decide) ?_
          refine lv_bipush (v := (-2)) S.1 S.2.1 dL_crosses_553 (by decide) ?_
          obtain ⟨⟨v17, m16⟩, hc15, h⟩ := d_b h
          have h := d_p2 h
          refine dwLi (vx_runSX (As := [.ref (dad g 0), .int 0, .int 8, .int 0, .int 5, .int (-2)]) (rest := []) S (kL_toss l g hst hc15) (vx_cwSW 6 S.2.2.2.2 gL_crosses_L_toss rfl rfl rfl ynL_toss ⟨(Nat.le_of_ble_eq_true rfl), (Nat.le_of_ble_eq_true rfl)⟩) (dwS hE hP hS hb) rfl rfl hl.1 rfl (lv_room (Nat.le_of_ble_eq_true rfl)) dL_crosses_555 ⟨by omega, by omega⟩) hE hS hb hKs hK (fun H hP hS hb hK => ?_)
          refine lv_iconst (v := 1) S.1 S.2.1 dL_crosses_558 (by decide) ?_
          refine lv_icmp_ne (tgt := 735) S.1 S.2.1 dL_crosses_559 (by decide) (fun cq => ?_) (fun cq => ?_)
          · have h := d_f cq h
            cases h
          · have h := d_t cq h
            refine lv_aload_n S.1 S.2.1 dL_crosses_562 rfl (lv_at hl 0 rfl) ?_
            refine lv_iconst (v := 0) S.1 S.2.1 dL_crosses_563 (by decide) ?_
            refine lv_bipush (v := 8) S.1 S.2.1 dL_crosses_564 (by decide) ?_
            refine lv_iconst (v := 0) S.1 S.2.1 dL_crosses_566 (by decide) ?_
            refine lv_iconst (v := 5) S.1 S.2.1 dL_crosses_567 (by decide) ?_
            refine lv_bipush (v := (-3)) S.1 S.2.1 dL_crosses_568 (by decide) ?_
            obtain ⟨⟨v20, m19⟩, hc18, h⟩ := d_b h
            have h := d_p2 h
            refine dwLi (vx_runSX (As := [.ref (dad g 0), .int 0, .int 8, .int 0, .int 5, .int (-3)]) (rest := []) S (kL_toss l g hst hc18) (vx_cwSW 6 S.2.2.2.2 gL_crosses_L_toss rfl rfl rfl ynL_toss ⟨(Nat.le_of_ble_eq_true rfl), (Nat.le_of_ble_eq_true rfl)⟩) (dwS hE hP hS hb) rfl rfl hl.1 rfl (lv_room (Nat.le_of_ble_eq_true rfl)) dL_crosses_570 ⟨by omega, by omega⟩) hE hS hb hKs hK (fun H hP hS hb hK => ?_)
            refine lv_if_ne (tgt := 735) S.1 S.2.1 dL_crosses_573 (by decide) (fun cq => ?_) (fun cq => ?_)
            · have h := d_f cq h
              cases h
            · have h := d_t cq h
              refine lv_aload_n S.1 S.2.1 dL_crosses_576 rfl (lv_at hl 0 rfl) ?_
              refine lv_iconst (v := 1) S.1 S.2.1 dL_crosses_577 (by decide) ?_
              refine lv_iconst (v := 0) S.1 S.2.1 dL_crosses_578 (by decide) ?_
              refine lv_iconst (v := 0) S.1 S.2.1 dL_crosses_579 (by decide) ?_
              refine lv_iconst (v := 1) S.1 S.2.1 dL_crosses_580 (by decide) ?_
              refine lv_iconst (v := 0) S.1 S.2.1 dL_crosses_581 (by decide) ?_
              obtain ⟨⟨v23, m22⟩, hc21, h⟩ := d_b h
              have h := d_p2 h
              refine dwLi (vx_runSX (As := [.ref (dad g 0), .int 1, .int 0, .int 0, .int 1, .int 0]) (rest := []) S (kL_toss l g hst hc21) (vx_cwSW 6 S.2.2.2.2 gL_crosses_L_toss rfl rfl rfl ynL_toss ⟨(Nat.le_of_ble_eq_true rfl), (Nat.le_of_ble_eq_true rfl)⟩) (dwS hE hP hS hb) rfl rfl hl.1 rfl (lv_room (Nat.le_of_ble_eq_true rfl)) dL_crosses_582 ⟨by omega, by omega⟩) hE hS hb hKs hK (fun H hP hS hb hK => ?_)
              refine lv_if_ne (tgt := 735) S.1 S.2.1 dL_crosses_585 (by decide) (fun cq => ?_) (fun cq => ?_)
              · have h := d_f cq h
                cases h
              · have h := d_t cq h
                refine lv_aload_n S.1 S.2.1 dL_crosses_588 rfl (lv_at hl 0 rfl) ?_
                refine lv_iconst (v := 0) S.1 S.2.1 dL_crosses_589 (by decide) ?_
                refine lv_iconst (v := 1) S.1 S.2.1 dL_crosses_590 (by decide) ?_
                refine lv_iconst (v := 0) S.1 S.2.1 dL_crosses_591 (by decide) ?_
                obtain ⟨q27, hc24, h⟩ := d_b h
                rcases q27 with q27 | q27
                · have h := d_s1 h
                  cases h
                obtain ⟨v26, m25⟩ := q27
                have h := d_s2 h
                have h := d_p2 h
                refine dwxi (vx_runV (As := [.int 0, .int 1, .int 0]) (rest := []) S (kX11_page l g hst hc24) (cwV 3 S.2.2.2.2 gL_crosses_X11_page rfl rfl rfl ynX11_page ⟨(Nat.le_of_ble_eq_true rfl), (Nat.le_of_ble_eq_true rfl)⟩) (dwV hE hP hS hb (ci := 11) rfl (dat12 dk_0)) rfl rfl hl.1 rfl (lv_room (Nat.le_of_ble_eq_true rfl)) dL_crosses_592 ⟨by omega, by omega⟩) rfl hE hS hb hKs hK (fun H hP hS hb hK => ?_)
                refine lv_if_ne (tgt := 735) S.1 S.2.1 dL_crosses_595 (by decide) (fun cq => ?_) (fun cq => ?_)
                · have h := d_f cq h
                  cases h
                · have h := d_t cq h
                  refine lv_aload_n S.1 S.2.1 dL_crosses_598 rfl (lv_at hl 0 rfl) ?_
                  refine lv_iconst (v := 0) S.1 S.2.1 dL_crosses_599 (by decide) ?_
                  refine lv_iconst (v := 1) S.1 S.2.1 dL_crosses_600 (by decide) ?_
                  refine lv_iconst (v := 1) S.1 S.2.1 dL_crosses_601 (by decide) ?_
                  obtain ⟨q31, hc28, h⟩ := d_b h
                  rcases q31 with q31 | q31
                  · have h := d_s1 h
                    cases h
                  obtain ⟨v30, m29⟩ := q31
                  have h := d_s2 h
                  have h := d_p2 h
                  refine dwxi (vx_runV (As := [.int 0, .int 1, .int 1]) (rest := []) S (kX11_page l g hst hc28) (cwV 3 S.2.2.2.2 gL_crosses_X11_page rfl rfl rfl ynX11_page ⟨(Nat.le_of_ble_eq_true rfl), (Nat.le_of_ble_eq_true rfl)⟩) (dwV hE hP hS hb (ci := 11) rfl (dat12 dk_0)) rfl rfl hl.1 rfl (lv_room (Nat.le_of_ble_eq_true rfl)) dL_crosses_602 ⟨by omega, by omega⟩) rfl hE hS hb hKs hK (fun H hP hS hb hK => ?_)
                  refine lv_bipush (v := 20) S.1 S.2.1 dL_crosses_605 (by decide) ?_
                  refine lv_icmp_ne (tgt := 735) S.1 S.2.1 dL_crosses_607 (by decide) (fun cq => ?_) (fun cq => ?_)
                  · have h := d_f cq h
                    cases h
                  · have h := d_t cq h
                    obtain rfl := Option.some.inj h
                    exact kk H ls _ _ (by omega) (by omega) hP hS hb hK (lv_sub hl [0] rfl)
    · have h := d_t cq h
      cases h
def fL_crosses610 (m : dM) : Option dM := (fX11_page m 0 0 1 2).bind (fun q => dS q (fun _ => none) (fun q => dP2 q (fun v3 m2 => if v3 = 0 then (fX11_page m2 0 0 1 3).bind (fun q => dS q (fun _ => none) (fun q => dP2 q (fun v7 m6 => if v7 = 0 then (fX11_part m6 0 3 5 100 0).bind (fun q => dS q (fun _ => none) (fun q => dP2 q (fun v11 m10 => if v11 = 3 then (fX11_page m10 0 3 0 0).bind (fun q => dS q (fun _ => none) (fun q => dP2 q (fun v15 m14 => if v15 = 1 then (fX11_page m14 0 3 0 1).bind (fun q => dS q (fun _ => none) (fun q => dP2 q (fun v19 m18 => if v19 = (-40) then (fX11_page m18 0 3 0 2).bind (fun q => dS q (fun _ => none) (fun q => dP2 q (fun v23 m22 => if v23 = 0 then (fX11_page m22 0 3 0 3).bind (fun q => dS q (fun _ => none) (fun q => dP2 q (fun v27 m26 => if v27 = 140 then (fX11_page m26 0 3 1 0).bind (fun q => dS q (fun _ => none) (fun q => dP2 q (fun v31 m30 => if v31 = 0 then (fX11_page m30 0 3 1 1).bind (fun q => dS q (fun _ => none) (fun q => dP2 q (fun v35 m34 => if v35 = 39 then some m34 else none))) else none))) else none))) else none))) else none))) else none))) else none))) else none))) else none)))
set_option maxHeartbeats 4000000 in
set_option maxRecDepth 100000 in
theorem kL_crosses610 {p : Program} {l : Launch} {e : Env} {s : State} {mth : MethodId} {below : List Frame} {meth : Method} {c : Code} {g : dG} {Q : State → Prop} {H : Heap} {cells slots : Nat} {ls : Array Slot} {m m9 : dM} {K : Heap → Prop} (hst : l.stackTraces = false) (S : CallFix p mth c cL_crosses 2 s (([] : List Value).toArray) wsL_crosses RL) (hE : dEw g s) (hKs : ∀ H H1 : Heap, (∀ q, q < g.2.2.2 → H1[q]? = H[q]?) → K H → K H1) (hR : cells + 28 ≤ (headSpec wsL_crosses (dDm 12 249 2061 13792)).room.cells ∧ slots + 168 ≤ (headSpec wsL_crosses (dDm 12 249 2061 13792)).room.slots) (h : fL_crosses610 m = some m9) (hP : va_P g.1 vwCl (dws g m) H) (hS : va_S (dAs s) s.heap H []) (hb : g.2.2.2 ≤ H.size) (hK : K H) (hl : lv_has ls 2 [(0, .ref (dad g 0))])
    (kk : ∀ (H : Heap) (ls : Array Slot) (cells2 slots2 : Nat), cells2 ≤ cells + 28 → slots2 ≤ slots + 168 → va_P g.1 vwCl (dws g m9) H → va_S (dAs s) s.heap H [] → g.2.2.2 ≤ H.size → K H → lv_has ls 2 [(0, .ref (dad g 0))] → W p l e (headSpec wsL_crosses (dDm 12 249 2061 13792)).room s mth (([] : List Value).toArray) below meth c H [] cells2 slots2 Q (F0 mth 711 ls [])) : W p l e (headSpec wsL_crosses (dDm 12 249 2061 13792)).room s mth (([] : List Value).toArray) below meth c H [] cells slots Q (F0 mth 610 ls []) := by
  obtain ⟨hR1, hR2⟩ := hR
  unfold fL_crosses610 at h
  refine lv_aload_n S.1 S.2.1 dL_crosses_610 rfl (lv_at hl 0 rfl) ?_
  refine lv_iconst (v := 0) S.1 S.2.1 dL_crosses_611 (by decide) ?_
  refine lv_iconst (v := 1) S.1 S.2.1 dL_crosses_612 (by decide) ?_
  refine lv_iconst (v := 2) S.1 S.2.1 dL_crosses_613 (by decide) ?_
  obtain ⟨q4, hc1, h⟩ := d_b h
  rcases q4 with q4 | q4
  · have h := d_s1 h
    cases h
  obtain ⟨v3, m2⟩ := q4
  have h := d_s2 h
  have h := d_p2 h
  refine dwxi (vx_runV (As := [.int 0, .int 1, .int 2]) (rest := []) S (kX11_page l g hst hc1) (cwV 3 S.2.2.2.2 gL_crosses_X11_page rfl rfl rfl ynX11_page ⟨(Nat.le_of_ble_eq_true rfl), (Nat.le_of_ble_eq_true rfl)⟩) (dwV hE hP hS hb (ci := 11) rfl (dat12 dk_0)) rfl rfl hl.1 rfl (lv_room (Nat.le_of_ble_eq_true rfl)) dL_crosses_614 ⟨by omega, by omega⟩) rfl hE hS hb hKs hK (fun H hP hS hb hK => ?_)
  refine lv_if_ne (tgt := 735) S.1 S.2.1 dL_crosses_617 (by decide) (fun cq => ?_) (fun cq => ?_)
  · have h := d_f cq h
    cases h
  · have h := d_t cq h
    refine lv_aload_n S.1 S.2.1 dL_crosses_620 rfl (lv_at hl 0 rfl) ?_
    refine lv_iconst (v := 0) S.1 S.2.1 dL_crosses_621 (by decide) ?_
    refine lv_iconst (v := 1) S.1 S.2.1 dL_crosses_622 (by decide) ?_
    refine lv_iconst (v := 3) S.1 S.2.1 dL_crosses_623 (by decide) ?_
    obtain ⟨q8, hc5, h⟩ := d_b h
    rcases q8 with q8 | q8
    · have h := d_s1 h
      cases h
    obtain ⟨v7, m6⟩ := q8
    have h := d_s2 h
    have h := d_p2 h
    refine dwxi (vx_runV (As := [.int 0, .int 1, .int 3]) (rest := []) S (kX11_page l g hst hc5) (cwV 3 S.2.2.2.2 gL_crosses_X11_page rfl rfl rfl ynX11_page ⟨(Nat.le_of_ble_eq_true rfl), (Nat.le_of_ble_eq_true rfl)⟩) (dwV hE hP hS hb (ci := 11) rfl (dat12 dk_0)) rfl rfl hl.1 rfl (lv_room (Nat.le_of_ble_eq_true rfl)) dL_crosses_624 ⟨by omega, by omega⟩) rfl hE hS hb hKs hK (fun H hP hS hb hK => ?_)
    refine lv_if_ne (tgt := 735) S.1 S.2.1 dL_crosses_627 (by decide) (fun cq => ?_) (fun cq => ?_)
    · have h := d_f cq h
      cases h
    · have h := d_t cq h
      refine lv_aload_n S.1 S.2.1 dL_crosses_630 rfl (lv_at hl 0 rfl) ?_
      refine lv_iconst (v := 3) S.1 S.2.1 dL_crosses_631 (by decide) ?_
      refine lv_iconst (v := 5) S.1 S.2.1 dL_crosses_632 (by decide) ?_
      refine lv_bipush (v := 100) S.1 S.2.1 dL_crosses_633 (by decide) ?_
      refine lv_iconst (v := 0) S.1 S.2.1 dL_crosses_635 (by decide) ?_
      obtain ⟨q12, hc9, h⟩ := d_b h
      rcases q12 with q12 | q12
      · have h := d_s1 h
        cases h
      obtain ⟨v11, m10⟩ := q12
      have h := d_s2 h
      have h := d_p2 h
      refine dwxi (vx_runV (As := [.int 3, .int 5, .int 100, .int 0]) (rest := []) S (kX11_part l g hst hc9) (cwV 4 S.2.2.2.2 gL_crosses_X11_part rfl rfl rfl ynX11_part ⟨(Nat.le_of_ble_eq_true rfl), (Nat.le_of_ble_eq_true rfl)⟩) (dwV hE hP hS hb (ci := 11) rfl (dat12 dk_0)) rfl rfl hl.1 rfl (lv_room (Nat.le_of_ble_eq_true rfl)) dL_crosses_636 ⟨by omega, by omega⟩) rfl hE hS hb hKs hK (fun H hP hS hb hK => ?_)
      refine lv_iconst (v := 3) S.1 S.2.1 dL_crosses_639 (by decide) ?_
      refine lv_icmp_ne (tgt := 735) S.1 S.2.1 dL_crosses_640 (by decide) (fun cq => ?_) (fun cq => ?_)
      · have h := d_f cq h
        cases h
      · have h := d_t cq h
        refine lv_aload_n S.1 S.2.1 dL_crosses_643 rfl (lv_at hl 0 rfl) ?_
        refine lv_iconst (v := 3) S.1 S.2.1 dL_crosses_644 (by decide) ?_
        refine lv_iconst (v := 0) S.1 S.2.1 dL_crosses_645 (by decide) ?_
        refine lv_iconst (v := 0) S.1 S.2.1 dL_crosses_646 (by decide) ?_
        obtain ⟨q16, hc13, h⟩ := d_b h
        rcases q16 with q16 | q16
        · have h := d_s1 h
          cases h
        obtain ⟨v15, m14⟩ := q16
        have h := d_s2 h
        have h := d_p2 h
        refine dwxi (vx_runV (As := [.int 3, .int 0, .int 0]) (rest := []) S (kX11_page l g hst hc13) (cwV 3 S.2.2.2.2 gL_crosses_X11_page rfl rfl rfl ynX11_page ⟨(Nat.le_of_ble_eq_true rfl), (Nat.le_of_ble_eq_true rfl)⟩) (dwV hE hP hS hb (ci := 11) rfl (dat12 dk_0)) rfl rfl hl.1 rfl (lv_room (Nat.le_of_ble_eq_true rfl)) dL_crosses_647 ⟨by omega, by omega⟩) rfl hE hS hb hKs hK (fun H hP hS hb hK => ?_)
        refine lv_iconst (v := 1) S.1 S.2.1 dL_crosses_650 (by decide) ?_
        refine lv_icmp_ne (tgt := 735) S.1 S.2.1 dL_crosses_651 (by decide) (fun cq => ?_) (fun cq => ?_)
        · have h := d_f cq h
          cases h
        · have h := d_t cq h
          refine lv_aload_n S.1 S.2.1 dL_crosses_654 rfl (lv_at hl 0 rfl) ?_
          refine lv_iconst (v := 3) S.1 S.2.1 dL_crosses_655 (by decide) ?_
          refine lv_iconst (v := 0) S.1 S.2.1 dL_crosses_656 (by decide) ?_
          refine lv_iconst (v := 1) S.1 S.2.1 dL_crosses_657 (by decide) ?_
          obtain ⟨q20, hc17, h⟩ := d_b h
          rcases q20 with q20 | q20
          · have h := d_s1 h
            cases h
          obtain ⟨v19, m18⟩ := q20
          have h := d_s2 h
          have h := d_p2 h
          refine dwxi (vx_runV (As := [.int 3, .int 0, .int 1]) (rest := []) S (kX11_page l g hst hc17) (cwV 3 S.2.2.2.2 gL_crosses_X11_page rfl rfl rfl ynX11_page ⟨(Nat.le_of_ble_eq_true rfl), (Nat.le_of_ble_eq_true rfl)⟩) (dwV hE hP hS hb (ci := 11) rfl (dat12 dk_0)) rfl rfl hl.1 rfl (lv_room (Nat.le_of_ble_eq_true rfl)) dL_crosses_658 ⟨by omega, by omega⟩) rfl hE hS hb hKs hK (fun H hP hS hb hK => ?_)
          refine lv_bipush (v := (-40)) S.1 S.2.1 dL_crosses_661 (by decide) ?_
          refine lv_icmp_ne (tgt := 735) S.1 S.2.1 dL_crosses_663 (by decide) (fun cq => ?_) (fun cq => ?_)
          · have h := d_f cq h
            cases h
          · have h := d_t cq h
            refine lv_aload_n S.1 S.2.1 dL_crosses_666 rfl (lv_at hl 0 rfl) ?_
            refine lv_iconst (v := 3) S.1 S.2.1 dL_crosses_667 (by decide) ?_
            refine lv_iconst (v := 0) S.1 S.2.1 dL_crosses_668 (by decide) ?_
            refine lv_iconst (v := 2) S.1 S.2.1 dL_crosses_669 (by decide) ?_
            obtain ⟨q24, hc21, h⟩ := d_b h
            rcases q24 with q24 | q24
            · have h := d_s1 h
              cases h
            obtain ⟨v23, m22⟩ := q24
            have h := d_s2 h
            have h := d_p2 h
            refine dwxi (vx_runV (As := [.int 3, .int 0, .int 2]) (rest := []) S (kX11_page l g hst hc21) (cwV 3 S.2.2.2.2 gL_crosses_X11_page rfl rfl rfl ynX11_page ⟨(Nat.le_of_ble_eq_true rfl), (Nat.le_of_ble_eq_true rfl)⟩) (dwV hE hP hS hb (ci := 11) rfl (dat12 dk_0)) rfl rfl hl.1 rfl (lv_room (Nat.le_of_ble_eq_true rfl)) dL_crosses_670 ⟨by omega, by omega⟩) rfl hE hS hb hKs hK (fun H hP hS hb hK => ?_)
            refine lv_if_ne (tgt := 735) S.1 S.2.1 dL_crosses_673 (by decide) (fun cq => ?_) (fun cq => ?_)
            · have h := d_f cq h
              cases h
            · have h := d_t cq h
              refine lv_aload_n S.1 S.2.1 dL_crosses_676 rfl (lv_at hl 0 rfl) ?_
              refine lv_iconst (v := 3) S.1 S.2.1 dL_crosses_677 (by decide) ?_
              refine lv_iconst (v := 0) S.1 S.2.1 dL_crosses_678 (by decide) ?_
              refine lv_iconst (v := 3) S.1 S.2.1 dL_crosses_679 (by decide) ?_
              obtain ⟨q28, hc25, h⟩ := d_b h
              rcases q28 with q28 | q28
              · have h := d_s1 h
                cases h
              obtain ⟨v27, m26⟩ := q28
              have h := d_s2 h
              have h := d_p2 h
              refine dwxi (vx_runV (As := [.int 3, .int 0, .int 3]) (rest := []) S (kX11_page l g hst hc25) (cwV 3 S.2.2.2.2 gL_crosses_X11_page rfl rfl rfl ynX11_page ⟨(Nat.le_of_ble_eq_true rfl), (Nat.le_of_ble_eq_true rfl)⟩) (dwV hE hP hS hb (ci := 11) rfl (dat12 dk_0)) rfl rfl hl.1 rfl (lv_room (Nat.le_of_ble_eq_true rfl)) dL_crosses_680 ⟨by omega, by omega⟩) rfl hE hS hb hKs hK (fun H hP hS hb hK => ?_)
              refine lv_sipush (v := 140) S.1 S.2.1 dL_crosses_683 (by decide) ?_
              refine lv_icmp_ne (tgt := 735) S.1 S.2.1 dL_crosses_686 (by decide) (fun cq => ?_) (fun cq => ?_)
              · have h := d_f cq h
                cases h
              · have h := d_t cq h
                refine lv_aload_n S.1 S.2.1 dL_crosses_689 rfl (lv_at hl 0 rfl) ?_
                refine lv_iconst (v := 3) S.1 S.2.1 dL_crosses_690 (by decide) ?_
                refine lv_iconst (v := 1) S.1 S.2.1 dL_crosses_691 (by decide) ?_
                refine lv_iconst (v := 0) S.1 S.2.1 dL_crosses_692 (by decide) ?_
                obtain ⟨q32, hc29, h⟩ := d_b h
                rcases q32 with q32 | q32
                · have h := d_s1 h
                  cases h
                obtain ⟨v31, m30⟩ := q32
                have h := d_s2 h
                have h := d_p2 h
                refine dwxi (vx_runV (As := [.int 3, .int 1, .int 0]) (rest := []) S (kX11_page l g hst hc29) (cwV 3 S.2.2.2.2 gL_crosses_X11_page rfl rfl rfl ynX11_page ⟨(Nat.le_of_ble_eq_true rfl), (Nat.le_of_ble_eq_true rfl)⟩) (dwV hE hP hS hb (ci := 11) rfl (dat12 dk_0)) rfl rfl hl.1 rfl (lv_room (Nat.le_of_ble_eq_true rfl)) dL_crosses_693 ⟨by omega, by omega⟩) rfl hE hS hb hKs hK (fun H hP hS hb hK => ?_)
                refine lv_if_ne (tgt := 735) S.1 S.2.1 dL_crosses_696 (by decide) (fun cq => ?_) (fun cq => ?_)
                · have h := d_f cq h
                  cases h
                · have h := d_t cq h
                  refine lv_aload_n S.1 S.2.1 dL_crosses_699 rfl (lv_at hl 0 rfl) ?_
                  refine lv_iconst (v := 3) S.1 S.2.1 dL_crosses_700 (by decide) ?_
                  refine lv_iconst (v := 1) S.1 S.2.1 dL_crosses_701 (by decide) ?_
                  refine lv_iconst (v := 1) S.1 S.2.1 dL_crosses_702 (by decide) ?_
                  obtain ⟨q36, hc33, h⟩ := d_b h
                  rcases q36 with q36 | q36
                  · have h := d_s1 h
                    cases h
                  obtain ⟨v35, m34⟩ := q36
                  have h := d_s2 h
                  have h := d_p2 h
                  refine dwxi (vx_runV (As := [.int 3, .int 1, .int 1]) (rest := []) S (kX11_page l g hst hc33) (cwV 3 S.2.2.2.2 gL_crosses_X11_page rfl rfl rfl ynX11_page ⟨(Nat.le_of_ble_eq_true rfl), (Nat.le_of_ble_eq_true rfl)⟩) (dwV hE hP hS hb (ci := 11) rfl (dat12 dk_0)) rfl rfl hl.1 rfl (lv_room (Nat.le_of_ble_eq_true rfl)) dL_crosses_703 ⟨by omega, by omega⟩) rfl hE hS hb hKs hK (fun H hP hS hb hK => ?_)
                  refine lv_bipush (v := 39) S.1 S.2.1 dL_crosses_706 (by decide) ?_
                  refine lv_icmp_ne (tgt := 735) S.1 S.2.1 dL_crosses_708 (by decide) (fun cq => ?_) (fun cq => ?_)
                  · have h := d_f cq h
                    cases h
                  · have h := d_t cq h
                    obtain rfl := Option.some.inj h
                    exact kk H ls _ _ (by omega) (by omega) hP hS hb hK (lv_sub hl [0] rfl)
def fL_crosses711 (m : dM) : Option dM := (fX11_page m 0 3 1 2).bind (fun q => dS q (fun _ => none) (fun q => dP2 q (fun v3 m2 => if v3 = 1 then (fX11_page m2 0 3 1 3).bind (fun q => dS q (fun _ => none) (fun q => dP2 q (fun v7 m6 => if v7 = (-139) then (fX11_changed m6 0).bind (fun v11 => if v11 = 8 then (fX11_publish m6 0).bind (fun q => dP2 q (fun v14 m13 => if v14 = 8 then (fX11_changed m13 0).bind (fun v17 => if v17 = 0 then (fX11_publish m13 0).bind (fun q => dP2 q (fun v20 m19 => if v20 = 0 then (fL_act m19 0 8 3 2 5 100).bind (fun q => dP2 q (fun v23 m22 => if (lg_cmp v23 1) = 0 then (fX11_changed m22 0).bind (fun v26 => if v26 = 2 then (fL_act m22 0 8 3 3 7 70).bind (fun q => dP2 q (fun v29 m28 => if (lg_cmp v29 1) = 0 then some m28 else none)) else none) else none)) else none)) else none) else none)) else none) else none))) else none)))
set_option maxHeartbeats 4000000 in
set_option maxRecDepth 100000 in
theorem kL_crosses711 {p : Program} {l : Launch} {e : Env} {s : State} {mth : MethodId} {below : List Frame} {meth : Method} {c : Code} {g : dG} {Q : State → Prop} {H : Heap} {cells slots : Nat} {ls : Array Slot} {m m9 : dM} {K : Heap → Prop} (hst : l.stackTraces = false) (S : CallFix p mth c cL_crosses 2 s (([] : List Value).toArray) wsL_crosses RL) (hE : dEw g s) (hKs : ∀ H H1 : Heap, (∀ q, q < g.2.2.2 → H1[q]? = H[q]?) → K H → K H1) (hR : cells + 14 ≤ (headSpec wsL_crosses (dDm 12 249 2061 13792)).room.cells ∧ slots + 84 ≤ (headSpec wsL_crosses (dDm 12 249 2061 13792)).room.slots) (h : fL_crosses711 m = some m9) (hP : va_P g.1 vwCl (dws g m) H) (hS : va_S (dAs s) s.heap H []) (hb : g.2.2.2 ≤ H.size) (hK : K H) (hl : lv_has ls 2 [(0, .ref (dad g 0))])
    (kk : ∀ (H : Heap) (ls : Array Slot) (cells2 slots2 : Nat), cells2 ≤ cells + 14 → slots2 ≤ slots + 84 → va_P g.1 vwCl (dws g m9) H → va_S (dAs s) s.heap H [] → g.2.2.2 ≤ H.size → K H → lv_has ls 2 [(0, .ref (dad g 0))] → W p l e (headSpec wsL_crosses (dDm 12 249 2061 13792)).room s mth (([] : List Value).toArray) below meth c H [] cells2 slots2 Q (F0 mth 810 ls [])) : W p l e (headSpec wsL_crosses (dDm 12 249 2061 13792)).room s mth (([] : List Value).toArray) below meth c H [] cells slots Q (F0 mth 711 ls []) := by
  obtain ⟨hR1, hR2⟩ := hR
  unfold fL_crosses711 at h
  refine lv_aload_n S.1 S.2.1 dL_crosses_711 rfl (lv_at hl 0 rfl) ?_
  refine lv_iconst (v := 3) S.1 S.2.1 dL_crosses_712 (by decide) ?_
  refine lv_iconst (v := 1) S.1 S.2.1 dL_crosses_713 (by decide) ?_
  refine lv_iconst (v := 2) S.1 S.2.1 dL_crosses_714 (by decide) ?_
  obtain ⟨q4, hc1, h⟩ := d_b h
  rcases q4 with q4 | q4
  · have h := d_s1 h
    cases h
  obtain ⟨v3, m2⟩ := q4
  have h := d_s2 h
  have h := d_p2 h
  refine dwxi (vx_runV (As := [.int 3, .int 1, .int 2]) (rest := []) S (kX11_page l g hst hc1) (cwV 3 S.2.2.2.2 gL_crosses_X11_page rfl rfl rfl ynX11_page ⟨(Nat.le_of_ble_eq_true rfl), (Nat.le_of_ble_eq_true rfl)⟩) (dwV hE hP hS hb (ci := 11) rfl (dat12 dk_0)) rfl rfl hl.1 rfl (lv_room (Nat.le_of_ble_eq_true rfl)) dL_crosses_715 ⟨by omega, by omega⟩) rfl hE hS hb hKs hK (fun H hP hS hb hK => ?_)
  refine lv_iconst (v := 1) S.1 S.2.1 dL_crosses_718 (by decide) ?_
  refine lv_icmp_ne (tgt := 735) S.1 S.2.1 dL_crosses_719 (by decide) (fun cq => ?_) (fun cq => ?_)
  · have h := d_f cq h
    cases h
  · have h := d_t cq h
    refine lv_aload_n S.1 S.2.1 dL_crosses_722 rfl (lv_at hl 0 rfl) ?_
    refine lv_iconst (v := 3) S.1 S.2.1 dL_crosses_723 (by decide) ?_
    refine lv_iconst (v := 1) S.1 S.2.1 dL_crosses_724 (by decide) ?_
    refine lv_iconst (v := 3) S.1 S.2.1 dL_crosses_725 (by decide) ?_
    obtain ⟨q8, hc5, h⟩ := d_b h
    rcases q8 with q8 | q8
    · have h := d_s1 h
      cases h
    obtain ⟨v7, m6⟩ := q8
    have h := d_s2 h
    have h := d_p2 h
    refine dwxi (vx_runV (As := [.int 3, .int 1, .int 3]) (rest := []) S (kX11_page l g hst hc5) (cwV 3 S.2.2.2.2 gL_crosses_X11_page rfl rfl rfl ynX11_page ⟨(Nat.le_of_ble_eq_true rfl), (Nat.le_of_ble_eq_true rfl)⟩) (dwV hE hP hS hb (ci := 11) rfl (dat12 dk_0)) rfl rfl hl.1 rfl (lv_room (Nat.le_of_ble_eq_true rfl)) dL_crosses_726 ⟨by omega, by omega⟩) rfl hE hS hb hKs hK (fun H hP hS hb hK => ?_)
    refine lv_sipush (v := (-139)) S.1 S.2.1 dL_crosses_729 (by decide) ?_
    refine lv_icmp_eq (tgt := 737) S.1 S.2.1 dL_crosses_732 (by decide) (fun cq => ?_) (fun cq => ?_)
    · have h := d_t cq h
      refine lv_aload_n S.1 S.2.1 dL_crosses_737 rfl (lv_at hl 0 rfl) ?_
      obtain ⟨v11, hc9, h⟩ := d_b h
      refine dwi (va_runV (As := []) (rest := []) S (kX11_changed l g hc9) (cwV 0 S.2.2.2.2 gL_crosses_X11_changed rfl rfl rfl ynX11_changed ⟨(Nat.le_of_ble_eq_true rfl), (Nat.le_of_ble_eq_true rfl)⟩) (dwV hE hP hS hb (ci := 11) rfl (dat12 dk_0)) rfl rfl hl.1 rfl (lv_room (Nat.le_of_ble_eq_true rfl)) dL_crosses_738 ⟨by omega, by omega⟩) hE hS hb hKs hK (fun H hP hS hb hK => ?_)
      refine lv_bipush (v := 8) S.1 S.2.1 dL_crosses_741 (by decide) ?_
      refine lv_icmp_ne (tgt := 905) S.1 S.2.1 dL_crosses_743 (by decide) (fun cq => ?_) (fun cq => ?_)
      · have h := d_f cq h
        cases h
      · have h := d_t cq h
        refine lv_aload_n S.1 S.2.1 dL_crosses_746 rfl (lv_at hl 0 rfl) ?_
        obtain ⟨⟨v14, m13⟩, hc12, h⟩ := d_b h
        have h := d_p2 h
        refine dwi (va_runV (As := []) (rest := []) S (kX11_publish l g hc12) (cwV 0 S.2.2.2.2 gL_crosses_X11_publish rfl rfl rfl ynX11_publish ⟨(Nat.le_of_ble_eq_true rfl), (Nat.le_of_ble_eq_true rfl)⟩) (dwV hE hP hS hb (ci := 11) rfl (dat12 dk_0)) rfl rfl hl.1 rfl (lv_room (Nat.le_of_ble_eq_true rfl)) dL_crosses_747 ⟨by omega, by omega⟩) hE hS hb hKs hK (fun H hP hS hb hK => ?_)
        refine lv_bipush (v := 8) S.1 S.2.1 dL_crosses_750 (by decide) ?_
        refine lv_icmp_ne (tgt := 905) S.1 S.2.1 dL_crosses_752 (by decide) (fun cq => ?_) (fun cq => ?_)
        · have h := d_f cq h
          cases h
        · have h := d_t cq h
          refine lv_aload_n S.1 S.2.1 dL_crosses_755 rfl (lv_at hl 0 rfl) ?_
          obtain ⟨v17, hc15, h⟩ := d_b h
          refine dwi (va_runV (As := []) (rest := []) S (kX11_changed l g hc15) (cwV 0 S.2.2.2.2 gL_crosses_X11_changed rfl rfl rfl ynX11_changed ⟨(Nat.le_of_ble_eq_true rfl), (Nat.le_of_ble_eq_true rfl)⟩) (dwV hE hP hS hb (ci := 11) rfl (dat12 dk_0)) rfl rfl hl.1 rfl (lv_room (Nat.le_of_ble_eq_true rfl)) dL_crosses_756 ⟨by omega, by omega⟩) hE hS hb hKs hK (fun H hP hS hb hK => ?_)
          refine lv_if_ne (tgt := 905) S.1 S.2.1 dL_crosses_759 (by decide) (fun cq => ?_) (fun cq => ?_)
          · have h := d_f cq h
            cases h
          · have h := d_t cq h
            refine lv_aload_n S.1 S.2.1 dL_crosses_762 rfl (lv_at hl 0 rfl) ?_
            obtain ⟨⟨v20, m19⟩, hc18, h⟩ := d_b h
            have h := d_p2 h
            refine dwi (va_runV (As := []) (rest := []) S (kX11_publish l g hc18) (cwV 0 S.2.2.2.2 gL_crosses_X11_publish rfl rfl rfl ynX11_publish ⟨(Nat.le_of_ble_eq_true rfl), (Nat.le_of_ble_eq_true rfl)⟩) (dwV hE hP hS hb (ci := 11) rfl (dat12 dk_0)) rfl rfl hl.1 rfl (lv_room (Nat.le_of_ble_eq_true rfl)) dL_crosses_763 ⟨by omega, by omega⟩) hE hS hb hKs hK (fun H hP hS hb hK => ?_)
            refine lv_if_ne (tgt := 905) S.1 S.2.1 dL_crosses_766 (by decide) (fun cq => ?_) (fun cq => ?_)
            · have h := d_f cq h
              cases h
            · have h := d_t cq h
              refine lv_aload_n S.1 S.2.1 dL_crosses_769 rfl (lv_at hl 0 rfl) ?_
              refine lv_bipush (v := 8) S.1 S.2.1 dL_crosses_770 (by decide) ?_
              refine lv_iconst (v := 3) S.1 S.2.1 dL_crosses_772 (by decide) ?_
              refine lv_iconst (v := 2) S.1 S.2.1 dL_crosses_773 (by decide) ?_
              refine lv_iconst (v := 5) S.1 S.2.1 dL_crosses_774 (by decide) ?_
              refine lv_bipush (v := 100) S.1 S.2.1 dL_crosses_775 (by decide) ?_
              obtain ⟨⟨v23, m22⟩, hc21, h⟩ := d_b h
              have h := d_p2 h
              refine dwLj (vx_runSX (As := [.ref (dad g 0), .int 8, .int 3, .int 2, .int 5, .int 100]) (rest := []) S (kL_act l g hst hc21) (vx_cwSW 6 S.2.2.2.2 gL_crosses_L_act rfl rfl rfl ynL_act ⟨(Nat.le_of_ble_eq_true rfl), (Nat.le_of_ble_eq_true rfl)⟩) (dwS hE hP hS hb) rfl rfl hl.1 rfl (lv_room (Nat.le_of_ble_eq_true rfl)) dL_crosses_777 ⟨by omega, by omega⟩) hE hS hb hKs hK (fun H hP hS hb hK => ?_)
              refine lv_lconst (v := 1) S.1 S.2.1 dL_crosses_780 (by decide) ?_
              refine W.lcmp S.1 S.2.1 dL_crosses_781 ?_
              refine lv_if_ne (tgt := 905) S.1 S.2.1 dL_crosses_782 (by decide) (fun cq => ?_) (fun cq => ?_)
              · have h := d_f cq h
                cases h
              · have h := d_t cq h
                refine lv_aload_n S.1 S.2.1 dL_crosses_785 rfl (lv_at hl 0 rfl) ?_
                obtain ⟨v26, hc24, h⟩ := d_b h
                refine dwi (va_runV (As := []) (rest := []) S (kX11_changed l g hc24) (cwV 0 S.2.2.2.2 gL_crosses_X11_changed rfl rfl rfl ynX11_changed ⟨(Nat.le_of_ble_eq_true rfl), (Nat.le_of_ble_eq_true rfl)⟩) (dwV hE hP hS hb (ci := 11) rfl (dat12 dk_0)) rfl rfl hl.1 rfl (lv_room (Nat.le_of_ble_eq_true rfl)) dL_crosses_786 ⟨by omega, by omega⟩) hE hS hb hKs hK (fun H hP hS hb hK => ?_)
                refine lv_iconst (v := 2) S.1 S.2.1 dL_crosses_789 (by decide) ?_
                refine lv_icmp_ne (tgt := 905) S.1 S.2.1 dL_crosses_790 (by decide) (fun cq => ?_) (fun cq => ?_)
                · have h := d_f cq h
                  cases h
                · have h := d_t cq h
                  refine lv_aload_n S.1 S.2.1 dL_crosses_793 rfl (lv_at hl 0 rfl) ?_
                  refine lv_bipush (v := 8) S.1 S.2.1 dL_crosses_794 (by decide) ?_
                  refine lv_iconst (v := 3) S.1 S.2.1 dL_crosses_796 (by decide) ?_
                  refine lv_iconst (v := 3) S.1 S.2.1 dL_crosses_797 (by decide) ?_
                  refine lv_bipush (v := 7) S.1 S.2.1 dL_crosses_798 (by decide) ?_
                  refine lv_bipush (v := 70) S.1 S.2.1 dL_crosses_800 (by decide) ?_
                  obtain ⟨⟨v29, m28⟩, hc27, h⟩ := d_b h
                  have h := d_p2 h
                  refine dwLj (vx_runSX (As := [.ref (dad g 0), .int 8, .int 3, .int 3, .int 7, .int 70]) (rest := []) S (kL_act l g hst hc27) (vx_cwSW 6 S.2.2.2.2 gL_crosses_L_act rfl rfl rfl ynL_act ⟨(Nat.le_of_ble_eq_true rfl), (Nat.le_of_ble_eq_true rfl)⟩) (dwS hE hP hS hb) rfl rfl hl.1 rfl (lv_room (Nat.le_of_ble_eq_true rfl)) dL_crosses_802 ⟨by omega, by omega⟩) hE hS hb hKs hK (fun H hP hS hb hK => ?_)
                  refine lv_lconst (v := 1) S.1 S.2.1 dL_crosses_805 (by decide) ?_
                  refine W.lcmp S.1 S.2.1 dL_crosses_806 ?_
                  refine lv_if_ne (tgt := 905) S.1 S.2.1 dL_crosses_807 (by decide) (fun cq => ?_) (fun cq => ?_)
                  · have h := d_f cq h
                    cases h
                  · have h := d_t cq h
                    obtain rfl := Option.some.inj h
                    exact kk H ls _ _ (by omega) (by omega) hP hS hb hK (lv_sub hl [0] rfl)
    · have h := d_f cq h
      cases h
def fL_crosses810 (m : dM) : Option dM := (fX11_page m 0 3 0 0).bind (fun q => dS q (fun _ => none) (fun q => dP2 q (fun v3 m2 => if v3 = 0 then (fX11_place m2 0 3 0).bind (fun q => dS q (fun _ => none) (fun q => dP2 q (fun v7 m6 => if v7 = 1 then (fX11_changed m6 0).bind (fun v11 => if v11 = 2 then (fX11_cut m6 0).bind (fun q => dS q (fun _ => none) (fun q => dP2 q (fun v14 m13 => if v14 = 3 then (fX11_changed m13 0).bind (fun v18 => if v18 = 2 then (fX11_publish m13 0).bind (fun q => dP2 q (fun v21 m20 => if v21 = 2 then (fX11_changed m20 0).bind (fun v24 => if v24 = 0 then (fX11_part m20 0 0 5 60 0).bind (fun q => dS q (fun _ => none) (fun q => dP2 q (fun v27 m26 => if v27 = 3 then (fX11_changed m26 0).bind (fun v31 => if v31 = 2 then some m26 else none) else none))) else none) else none)) else none) else none))) else none) else none))) else none)))
set_option maxHeartbeats 4000000 in
set_option maxRecDepth 100000 in
theorem kL_crosses810 {p : Program} {l : Launch} {e : Env} {s : State} {mth : MethodId} {below : List Frame} {meth : Method} {c : Code} {g : dG} {Q : State → Prop} {H : Heap} {cells slots : Nat} {ls : Array Slot} {m m9 : dM} {K : Heap → Prop} (hst : l.stackTraces = false) (S : CallFix p mth c cL_crosses 2 s (([] : List Value).toArray) wsL_crosses RL) (hE : dEw g s) (hKs : ∀ H H1 : Heap, (∀ q, q < g.2.2.2 → H1[q]? = H[q]?) → K H → K H1) (hR : cells + 10 ≤ (headSpec wsL_crosses (dDm 12 249 2061 13792)).room.cells ∧ slots + 60 ≤ (headSpec wsL_crosses (dDm 12 249 2061 13792)).room.slots) (h : fL_crosses810 m = some m9) (hP : va_P g.1 vwCl (dws g m) H) (hS : va_S (dAs s) s.heap H []) (hb : g.2.2.2 ≤ H.size) (hK : K H) (hl : lv_has ls 2 [(0, .ref (dad g 0))])
    (kk : ∀ (H : Heap) (ls : Array Slot) (cells2 slots2 : Nat), cells2 ≤ cells + 10 → slots2 ≤ slots + 60 → va_P g.1 vwCl (dws g m9) H → va_S (dAs s) s.heap H [] → g.2.2.2 ≤ H.size → K H → lv_has ls 2 [(0, .ref (dad g 0))] → W p l e (headSpec wsL_crosses (dDm 12 249 2061 13792)).room s mth (([] : List Value).toArray) below meth c H [] cells2 slots2 Q (F0 mth 890 ls [])) : W p l e (headSpec wsL_crosses (dDm 12 249 2061 13792)).room s mth (([] : List Value).toArray) below meth c H [] cells slots Q (F0 mth 810 ls []) := by
  obtain ⟨hR1, hR2⟩ := hR
  unfold fL_crosses810 at h
  refine lv_aload_n S.1 S.2.1 dL_crosses_810 rfl (lv_at hl 0 rfl) ?_
  refine lv_iconst (v := 3) S.1 S.2.1 dL_crosses_811 (by decide) ?_
  refine lv_iconst (v := 0) S.1 S.2.1 dL_crosses_812 (by decide) ?_
  refine lv_iconst (v := 0) S.1 S.2.1 dL_crosses_813 (by decide) ?_
  obtain ⟨q4, hc1, h⟩ := d_b h
  rcases q4 with q4 | q4
  · have h := d_s1 h
    cases h
  obtain ⟨v3, m2⟩ := q4
  have h := d_s2 h
  have h := d_p2 h
  refine dwxi (vx_runV (As := [.int 3, .int 0, .int 0]) (rest := []) S (kX11_page l g hst hc1) (cwV 3 S.2.2.2.2 gL_crosses_X11_page rfl rfl rfl ynX11_page ⟨(Nat.le_of_ble_eq_true rfl), (Nat.le_of_ble_eq_true rfl)⟩) (dwV hE hP hS hb (ci := 11) rfl (dat12 dk_0)) rfl rfl hl.1 rfl (lv_room (Nat.le_of_ble_eq_true rfl)) dL_crosses_814 ⟨by omega, by omega⟩) rfl hE hS hb hKs hK (fun H hP hS hb hK => ?_)
  refine lv_if_ne (tgt := 905) S.1 S.2.1 dL_crosses_817 (by decide) (fun cq => ?_) (fun cq => ?_)
  · have h := d_f cq h
    cases h
  · have h := d_t cq h
    refine lv_aload_n S.1 S.2.1 dL_crosses_820 rfl (lv_at hl 0 rfl) ?_
    refine lv_iconst (v := 3) S.1 S.2.1 dL_crosses_821 (by decide) ?_
    refine lv_iconst (v := 0) S.1 S.2.1 dL_crosses_822 (by decide) ?_
    obtain ⟨q8, hc5, h⟩ := d_b h
    rcases q8 with q8 | q8
    · have h := d_s1 h
      cases h
    obtain ⟨v7, m6⟩ := q8
    have h := d_s2 h
    have h := d_p2 h
    refine dwxi (vx_runV (As := [.int 3, .int 0]) (rest := []) S (kX11_place l g hst hc5) (cwV 2 S.2.2.2.2 gL_crosses_X11_place rfl rfl rfl ynX11_place ⟨(Nat.le_of_ble_eq_true rfl), (Nat.le_of_ble_eq_true rfl)⟩) (dwV hE hP hS hb (ci := 11) rfl (dat12 dk_0)) rfl rfl hl.1 rfl (lv_room (Nat.le_of_ble_eq_true rfl)) dL_crosses_823 ⟨by omega, by omega⟩) rfl hE hS hb hKs hK (fun H hP hS hb hK => ?_)
    refine lv_iconst (v := 1) S.1 S.2.1 dL_crosses_826 (by decide) ?_
    refine lv_icmp_ne (tgt := 905) S.1 S.2.1 dL_crosses_827 (by decide) (fun cq => ?_) (fun cq => ?_)
    · have h := d_f cq h
      cases h
    · have h := d_t cq h
      refine lv_aload_n S.1 S.2.1 dL_crosses_830 rfl (lv_at hl 0 rfl) ?_
      obtain ⟨v11, hc9, h⟩ := d_b h
      refine dwi (va_runV (As := []) (rest := []) S (kX11_changed l g hc9) (cwV 0 S.2.2.2.2 gL_crosses_X11_changed rfl rfl rfl ynX11_changed ⟨(Nat.le_of_ble_eq_true rfl), (Nat.le_of_ble_eq_true rfl)⟩) (dwV hE hP hS hb (ci := 11) rfl (dat12 dk_0)) rfl rfl hl.1 rfl (lv_room (Nat.le_of_ble_eq_true rfl)) dL_crosses_831 ⟨by omega, by omega⟩) hE hS hb hKs hK (fun H hP hS hb hK => ?_)
      refine lv_iconst (v := 2) S.1 S.2.1 dL_crosses_834 (by decide) ?_
      refine lv_icmp_ne (tgt := 905) S.1 S.2.1 dL_crosses_835 (by decide) (fun cq => ?_) (fun cq => ?_)
      · have h := d_f cq h
        cases h
      · have h := d_t cq h
        refine lv_aload_n S.1 S.2.1 dL_crosses_838 rfl (lv_at hl 0 rfl) ?_
        obtain ⟨q15, hc12, h⟩ := d_b h
        rcases q15 with q15 | q15
        · have h := d_s1 h
          cases h
        obtain ⟨v14, m13⟩ := q15
        have h := d_s2 h
        have h := d_p2 h
        refine dwxi (vx_runV (As := []) (rest := []) S (kX11_cut l g hst hc12) (cwV 0 S.2.2.2.2 gL_crosses_X11_cut rfl rfl rfl ynX11_cut ⟨(Nat.le_of_ble_eq_true rfl), (Nat.le_of_ble_eq_true rfl)⟩) (dwV hE hP hS hb (ci := 11) rfl (dat12 dk_0)) rfl rfl hl.1 rfl (lv_room (Nat.le_of_ble_eq_true rfl)) dL_crosses_839 ⟨by omega, by omega⟩) rfl hE hS hb hKs hK (fun H hP hS hb hK => ?_)
        refine lv_iconst (v := 3) S.1 S.2.1 dL_crosses_842 (by decide) ?_
        refine lv_icmp_ne (tgt := 905) S.1 S.2.1 dL_crosses_843 (by decide) (fun cq => ?_) (fun cq => ?_)
        · have h := d_f cq h
          cases h
        · have h := d_t cq h
          refine lv_aload_n S.1 S.2.1 dL_crosses_846 rfl (lv_at hl 0 rfl) ?_
          obtain ⟨v18, hc16, h⟩ := d_b h
          refine dwi (va_runV (As := []) (rest := []) S (kX11_changed l g hc16) (cwV 0 S.2.2.2.2 gL_crosses_X11_changed rfl rfl rfl ynX11_changed ⟨(Nat.le_of_ble_eq_true rfl), (Nat.le_of_ble_eq_true rfl)⟩) (dwV hE hP hS hb (ci := 11) rfl (dat12 dk_0)) rfl rfl hl.1 rfl (lv_room (Nat.le_of_ble_eq_true rfl)) dL_crosses_847 ⟨by omega, by omega⟩) hE hS hb hKs hK (fun H hP hS hb hK => ?_)
          refine lv_iconst (v := 2) S.1 S.2.1 dL_crosses_850 (by decide) ?_
          refine lv_icmp_ne (tgt := 905) S.1 S.2.1 dL_crosses_851 (by decide) (fun cq => ?_) (fun cq => ?_)
          · have h := d_f cq h
            cases h
          · have h := d_t cq h
            refine lv_aload_n S.1 S.2.1 dL_crosses_854 rfl (lv_at hl 0 rfl) ?_
            obtain ⟨⟨v21, m20⟩, hc19, h⟩ := d_b h
            have h := d_p2 h
            refine dwi (va_runV (As := []) (rest := []) S (kX11_publish l g hc19) (cwV 0 S.2.2.2.2 gL_crosses_X11_publish rfl rfl rfl ynX11_publish ⟨(Nat.le_of_ble_eq_true rfl), (Nat.le_of_ble_eq_true rfl)⟩) (dwV hE hP hS hb (ci := 11) rfl (dat12 dk_0)) rfl rfl hl.1 rfl (lv_room (Nat.le_of_ble_eq_true rfl)) dL_crosses_855 ⟨by omega, by omega⟩) hE hS hb hKs hK (fun H hP hS hb hK => ?_)
            refine lv_iconst (v := 2) S.1 S.2.1 dL_crosses_858 (by decide) ?_
            refine lv_icmp_ne (tgt := 905) S.1 S.2.1 dL_crosses_859 (by decide) (fun cq => ?_) (fun cq => ?_)
            · have h := d_f cq h
              cases h
            · have h := d_t cq h
              refine lv_aload_n S.1 S.2.1 dL_crosses_862 rfl (lv_at hl 0 rfl) ?_
              obtain ⟨v24, hc22, h⟩ := d_b h
              refine dwi (va_runV (As := []) (rest := []) S (kX11_changed l g hc22) (cwV 0 S.2.2.2.2 gL_crosses_X11_changed rfl rfl rfl ynX11_changed ⟨(Nat.le_of_ble_eq_true rfl), (Nat.le_of_ble_eq_true rfl)⟩) (dwV hE hP hS hb (ci := 11) rfl (dat12 dk_0)) rfl rfl hl.1 rfl (lv_room (Nat.le_of_ble_eq_true rfl)) dL_crosses_863 ⟨by omega, by omega⟩) hE hS hb hKs hK (fun H hP hS hb hK => ?_)
              refine lv_if_ne (tgt := 905) S.1 S.2.1 dL_crosses_866 (by decide) (fun cq => ?_) (fun cq => ?_)
              · have h := d_f cq h
                cases h
              · have h := d_t cq h
                refine lv_aload_n S.1 S.2.1 dL_crosses_869 rfl (lv_at hl 0 rfl) ?_
                refine lv_iconst (v := 0) S.1 S.2.1 dL_crosses_870 (by decide) ?_
                refine lv_iconst (v := 5) S.1 S.2.1 dL_crosses_871 (by decide) ?_
                refine lv_bipush (v := 60) S.1 S.2.1 dL_crosses_872 (by decide) ?_
                refine lv_iconst (v := 0) S.1 S.2.1 dL_crosses_874 (by decide) ?_
                obtain ⟨q28, hc25, h⟩ := d_b h
                rcases q28 with q28 | q28
                · have h := d_s1 h
                  cases h
                obtain ⟨v27, m26⟩ := q28
                have h := d_s2 h
                have h := d_p2 h
                refine dwxi (vx_runV (As := [.int 0, .int 5, .int 60, .int 0]) (rest := []) S (kX11_part l g hst hc25) (cwV 4 S.2.2.2.2 gL_crosses_X11_part rfl rfl rfl ynX11_part ⟨(Nat.le_of_ble_eq_true rfl), (Nat.le_of_ble_eq_true rfl)⟩) (dwV hE hP hS hb (ci := 11) rfl (dat12 dk_0)) rfl rfl hl.1 rfl (lv_room (Nat.le_of_ble_eq_true rfl)) dL_crosses_875 ⟨by omega, by omega⟩) rfl hE hS hb hKs hK (fun H hP hS hb hK => ?_)
                refine lv_iconst (v := 3) S.1 S.2.1 dL_crosses_878 (by decide) ?_
                refine lv_icmp_ne (tgt := 905) S.1 S.2.1 dL_crosses_879 (by decide) (fun cq => ?_) (fun cq => ?_)
                · have h := d_f cq h
                  cases h
                · have h := d_t cq h
                  refine lv_aload_n S.1 S.2.1 dL_crosses_882 rfl (lv_at hl 0 rfl) ?_
                  obtain ⟨v31, hc29, h⟩ := d_b h
                  refine dwi (va_runV (As := []) (rest := []) S (kX11_changed l g hc29) (cwV 0 S.2.2.2.2 gL_crosses_X11_changed rfl rfl rfl ynX11_changed ⟨(Nat.le_of_ble_eq_true rfl), (Nat.le_of_ble_eq_true rfl)⟩) (dwV hE hP hS hb (ci := 11) rfl (dat12 dk_0)) rfl rfl hl.1 rfl (lv_room (Nat.le_of_ble_eq_true rfl)) dL_crosses_883 ⟨by omega, by omega⟩) hE hS hb hKs hK (fun H hP hS hb hK => ?_)
                  refine lv_iconst (v := 2) S.1 S.2.1 dL_crosses_886 (by decide) ?_
                  refine lv_icmp_ne (tgt := 905) S.1 S.2.1 dL_crosses_887 (by decide) (fun cq => ?_) (fun cq => ?_)
                  · have h := d_f cq h
                    cases h
                  · have h := d_t cq h
                    obtain rfl := Option.some.inj h
                    exact kk H ls _ _ (by omega) (by omega) hP hS hb hK (lv_sub hl [0] rfl)
def fL_crossesA (m : dM) : Option dM := (fL_crosses8 m).bind (fun m1 => (fL_crosses130 m1).bind (fun m5 => (fL_crosses239 m5).bind (fun m9 => some m9)))
def fL_crossesB (m : dM) : Option dM := (fL_crossesp294 m).bind (fun m1 => some m1)
def fL_crossesC (m : dM) : Option dM := (fL_crosses387 m).bind (fun m1 => (fL_crosses500 m1).bind (fun m5 => (fL_crosses610 m5).bind (fun m9 => (fL_crosses711 m9).bind (fun m13 => (fL_crosses810 m13).bind (fun m17 => (fX11_cut m17 0).bind (fun q => dS q (fun _ => none) (fun q => dP2 q (fun v23 m22 => if v23 = 3 then (fX11_changed m22 0).bind (fun v27 => if v27 = 0 then (fL_refuses m22 2 4 3 8).bind (fun m29 => some m29) else none) else none))))))))
def fL_crosses : Option dM := (fL_crossesA dI).bind (fun m1 => (fL_crossesB dI).bind (fun _ => fL_crossesC m1))
set_option maxHeartbeats 4000000 in
set_option maxRecDepth 100000 in
theorem kL_crosses (l : Launch) (g : dG) (hst : l.stackTraces = false) (hpL_crosses : ∃ r, fL_crosses = some r) : dDMet l g yL_crosses wsL_crosses 12 249 2061 13792 := by
  refine dDof (cc := cL_crosses) (maxL := 2) (ret := (some .boolean)) (by decide) rfl ?_
  intro p e s mth below meth c S hr hlk hE0 hg ls hl
  have S : CallFix p mth c cL_crosses 2 s (([] : List Value).toArray) wsL_crosses RL := S
  have hS : va_S (dAs s) s.heap s.heap [] := va_S.rf
  have hR1 : 0 + 2061 ≤ (headSpec wsL_crosses (dDm 12 249 2061 13792)).room.cells := (Nat.le_of_ble_eq_true rfl)
  have hR2 : 0 + 13792 ≤ (headSpec wsL_crosses (dDm 12 249 2061 13792)).room.slots := (Nat.le_of_ble_eq_true rfl)
  have in11 : ∀ w ∈ wsX110, w ∈ wsL_crosses := by decide +kernel
  obtain ⟨r9, h⟩ := hpL_crosses
  unfold fL_crosses at h
  obtain ⟨MO, hp1, h⟩ := d_b h
  obtain ⟨m2, hp2, h⟩ := d_b h
  have hp3 : ∃ r, fL_crossesC MO = some r := ⟨_, h⟩
  have hp2 : ∃ r, fL_crossesB dI = some r := ⟨_, hp2⟩
  have h := hp1
  unfold fL_crossesA at h
  refine d_newF (k1 := 443) (k2 := 3369) (fs := [.null, .null, .null, .null, .null, .null, .null, .null]) S in11 (S.2.2.2.2 (.classLink RL 8 RX11) (List.mem_of_getElem? (i := 1) rfl)) (S.2.2.2.2 (.instantiable RX11 8) (List.mem_of_getElem? (i := 2) rfl)) (S.2.2.2.2 (.initialized RX11) (List.mem_of_getElem? (i := 3) rfl)) hE0 rfl hS hfsX11 (fun q9 H9 locs9 c9 s9 hp hf => va_runI (As := []) (rest := [.ref q9]) S (kiX11 l _ q9 _) (cwI 0 S.2.2.2.2 gL_crosses_X11_init rfl rfl rfl (S.2.2.2.2 (.initialized RX11) (List.mem_of_getElem? (i := 3) rfl)) (S.2.2.2.2 (.methodLink RL 129 yX11_init) (List.mem_of_getElem? (i := 5) rfl)) (S.2.2.2.2 (.instanceMethod yX11_init) (List.mem_of_getElem? (i := 6) rfl)) rfl yniX11 ⟨(Nat.le_of_ble_eq_true rfl), (Nat.le_of_ble_eq_true rfl)⟩) hp rfl rfl hl.1 rfl (lv_room (Nat.le_of_ble_eq_true rfl)) dL_crosses_4 hf) (by omega) (by omega) dL_crosses_0 dL_crosses_3 (fun g H hE hgb hP hS hsz hold => ?_)
  have hb : g.2.2.2 ≤ H.size := by rw [hgb]; exact hsz
  have hKs : ∀ H H1 : Heap, (∀ q, q < g.2.2.2 → H1[q]? = H[q]?) → dK1 H → dK1 H1 := fun _ _ _ _ => trivial
  have hK : dK1 H := trivial
  refine lv_astore_n (lv' := [(0, .ref (dad g 0))]) S.1 S.2.1 dL_crosses_7 rfl hl (by decide) rfl (fun ls hl => ?_)
  obtain ⟨m1, hm2, h⟩ := d_b h
  refine kL_crosses8 hst S hE hKs ⟨by omega, by omega⟩ hm2 hP hS hb hK (lv_sub hl [0] rfl) (fun H ls cl3 sl4 hccl3 hssl4 hP hS hb hK hl => ?_)
  obtain ⟨m5, hm6, h⟩ := d_b h
  refine kL_crosses130 hst S hE hKs ⟨by omega, by omega⟩ hm6 hP hS hb hK (lv_sub hl [0] rfl) (fun H ls cl7 sl8 hccl7 hssl8 hP hS hb hK hl => ?_)
  obtain ⟨m9, hm10, h⟩ := d_b h
  refine kL_crosses239 hst S hE hKs ⟨by omega, by omega⟩ hm10 hP hS hb hK (lv_sub hl [0] rfl) (fun H ls cl11 sl12 hccl11 hssl12 hP hS hb hK hl => ?_)
  have hMO : _ = MO := Option.some.inj h
  rw [hMO] at hP
  obtain ⟨r7, h⟩ := hp2
  unfold fL_crossesB at h
  have hPO := hP
  obtain ⟨GO, hGO⟩ : ∃ z : dG, z = g := ⟨_, rfl⟩
  subst hGO
  have hEO := hE
  refine d_newF (k1 := 443) (k2 := 3369) (fs := [.null, .null, .null, .null, .null, .null, .null, .null]) S in11 (S.2.2.2.2 (.classLink RL 8 RX11) (List.mem_of_getElem? (i := 1) rfl)) (S.2.2.2.2 (.instantiable RX11 8) (List.mem_of_getElem? (i := 2) rfl)) (S.2.2.2.2 (.initialized RX11) (List.mem_of_getElem? (i := 3) rfl)) hE0 rfl hS hfsX11 (fun q9 H9 locs9 c9 s9 hp hf => va_runI (As := []) (rest := [.ref q9]) S (kiX11 l _ q9 _) (cwI 0 S.2.2.2.2 gL_crosses_X11_init rfl rfl rfl (S.2.2.2.2 (.initialized RX11) (List.mem_of_getElem? (i := 3) rfl)) (S.2.2.2.2 (.methodLink RL 129 yX11_init) (List.mem_of_getElem? (i := 5) rfl)) (S.2.2.2.2 (.instanceMethod yX11_init) (List.mem_of_getElem? (i := 6) rfl)) rfl yniX11 ⟨(Nat.le_of_ble_eq_true rfl), (Nat.le_of_ble_eq_true rfl)⟩) hp rfl rfl hl.1 rfl (lv_room (Nat.le_of_ble_eq_true rfl)) dL_crosses_290 hf) (by omega) (by omega) dL_crosses_286 dL_crosses_289 (fun g H hE hgb hP hS hsz hold => ?_)
  have hb : g.2.2.2 ≤ H.size := by rw [hgb]; exact hsz
  refine lv_astore_n (lv' := [(1, .ref (dad g 0)), (0, .ref (dad GO 0))]) S.1 S.2.1 dL_crosses_293 rfl hl (by decide) rfl (fun ls hl => ?_)
  have hKs : ∀ H H1 : Heap, (∀ q, q < g.2.2.2 → H1[q]? = H[q]?) → dK2 GO MO g.2.2.2 H → dK2 GO MO g.2.2.2 H1 := fun H H1 e k => k.to e
  have hK : dK2 GO MO g.2.2.2 H := dK2.of hPO hgb hold
  obtain ⟨m1, hm2, h⟩ := d_b h
  refine kL_crossesp294 hst S hE hKs ⟨by omega, by omega⟩ hm2 hP hS hb hK (lv_sub hl [0, 1] rfl) (fun H ls cl3 sl4 hccl3 hssl4 hP hS hb hK hl => ?_)
  have hP := hK.1
  obtain ⟨r8, h⟩ := hp3
  unfold fL_crossesC at h
  have hl : lv_has ls 2 [(0, .ref (dad GO 0))] := lv_sub hl [1] rfl
  obtain ⟨g, hg9⟩ : ∃ z : dG, z = GO := ⟨_, rfl⟩
  subst hg9
  have hE := hEO
  have hb := dw_base hE hP
  have hK : dK1 H := trivial
  have hKs : ∀ H H1 : Heap, (∀ q, q < g.2.2.2 → H1[q]? = H[q]?) → dK1 H → dK1 H1 := fun _ _ _ _ => trivial
  obtain ⟨m1, hm2, h⟩ := d_b h
  refine kL_crosses387 hst S hE hKs ⟨by omega, by omega⟩ hm2 hP hS hb hK (lv_sub hl [0] rfl) (fun H ls cl3 sl4 hccl3 hssl4 hP hS hb hK hl => ?_)
  obtain ⟨m5, hm6, h⟩ := d_b h
  refine kL_crosses500 hst S hE hKs ⟨by omega, by omega⟩ hm6 hP hS hb hK (lv_sub hl [0] rfl) (fun H ls cl7 sl8 hccl7 hssl8 hP hS hb hK hl => ?_)
  obtain ⟨m9, hm10, h⟩ := d_b h
  refine kL_crosses610 hst S hE hKs ⟨by omega, by omega⟩ hm10 hP hS hb hK (lv_sub hl [0] rfl) (fun H ls cl11 sl12 hccl11 hssl12 hP hS hb hK hl => ?_)
  obtain ⟨m13, hm14, h⟩ := d_b h
  refine kL_crosses711 hst S hE hKs ⟨by omega, by omega⟩ hm14 hP hS hb hK (lv_sub hl [0] rfl) (fun H ls cl15 sl16 hccl15 hssl16 hP hS hb hK hl => ?_)
  obtain ⟨m17, hm18, h⟩ := d_b h
  refine kL_crosses810 hst S hE hKs ⟨by omega, by omega⟩ hm18 hP hS hb hK (lv_sub hl [0] rfl) (fun H ls cl19 sl20 hccl19 hssl20 hP hS hb hK hl => ?_)
  refine lv_aload_n S.1 S.2.1 dL_crosses_890 rfl (lv_at hl 0 rfl) ?_
  obtain ⟨q24, hc21, h⟩ := d_b h
  rcases q24 with q24 | q24
  · have h := d_s1 h
    cases h
  obtain ⟨v23, m22⟩ := q24
  have h := d_s2 h
  have h := d_p2 h
  refine dwxi (vx_runV (As := []) (rest := []) S (kX11_cut l g hst hc21) (cwV 0 S.2.2.2.2 gL_crosses_X11_cut rfl rfl rfl ynX11_cut ⟨(Nat.le_of_ble_eq_true rfl), (Nat.le_of_ble_eq_true rfl)⟩) (dwV hE hP hS hb (ci := 11) rfl (dat12 dk_0)) rfl rfl hl.1 rfl (lv_room (Nat.le_of_ble_eq_true rfl)) dL_crosses_891 ⟨by omega, by omega⟩) rfl hE hS hb hKs hK (fun H hP hS hb hK => ?_)
  refine lv_iconst (v := 3) S.1 S.2.1 dL_crosses_894 (by decide) ?_
  refine lv_icmp_ne (tgt := 905) S.1 S.2.1 dL_crosses_895 (by decide) (fun cq => ?_) (fun cq => ?_)
  · have h := d_f cq h
    cases h
  · have h := d_t cq h
    refine lv_aload_n S.1 S.2.1 dL_crosses_898 rfl (lv_at hl 0 rfl) ?_
    obtain ⟨v27, hc25, h⟩ := d_b h
    refine dwi (va_runV (As := []) (rest := []) S (kX11_changed l g hc25) (cwV 0 S.2.2.2.2 gL_crosses_X11_changed rfl rfl rfl ynX11_changed ⟨(Nat.le_of_ble_eq_true rfl), (Nat.le_of_ble_eq_true rfl)⟩) (dwV hE hP hS hb (ci := 11) rfl (dat12 dk_0)) rfl rfl hl.1 rfl (lv_room (Nat.le_of_ble_eq_true rfl)) dL_crosses_899 ⟨by omega, by omega⟩) hE hS hb hKs hK (fun H hP hS hb hK => ?_)
    refine lv_if_eq (tgt := 907) S.1 S.2.1 dL_crosses_902 (by decide) (fun cq => ?_) (fun cq => ?_)
    · have h := d_t cq h
      refine lv_aload_n S.1 S.2.1 dL_crosses_907 rfl (lv_at hl 0 rfl) ?_
      refine lv_iconst (v := 2) S.1 S.2.1 dL_crosses_908 (by decide) ?_
      refine lv_iconst (v := 4) S.1 S.2.1 dL_crosses_909 (by decide) ?_
      refine lv_iconst (v := 3) S.1 S.2.1 dL_crosses_910 (by decide) ?_
      refine lv_bipush (v := 8) S.1 S.2.1 dL_crosses_911 (by decide) ?_
      obtain ⟨m29, hc28, h⟩ := d_b h
      refine dwLi (vx_runS (As := [.ref (dad g 0), .int 2, .int 4, .int 3, .int 8]) (rest := []) S (kL_refuses l g hst hc28) (va_cwS 5 S.2.2.2.2 gL_crosses_L_refuses rfl rfl rfl ynL_refuses ⟨(Nat.le_of_ble_eq_true rfl), (Nat.le_of_ble_eq_true rfl)⟩) (dwS hE hP hS hb) rfl rfl hl.1 rfl (lv_room (Nat.le_of_ble_eq_true rfl)) dL_crosses_913 ⟨by omega, by omega⟩) hE hS hb hKs hK (fun H hP hS hb hK => ?_)
      exact dDti S hr hlk hg hS rfl (by omega) (by omega) dL_crosses_916
    · have h := d_f cq h
      cases h
theorem ynL_drills : yL_drills.cls ≠ "java/lang/invoke/MethodHandle" ∧ yL_drills.cls ≠ "java/lang/invoke/VarHandle" ∧ (parseMethodDescriptor yL_drills.desc).map (fun d => d.parameters.length) = some 0 := by decide +kernel
set_option maxRecDepth 20000 in
theorem ggL_drills_X11_init : GoodIn wsL_drills wsX11_init := goodIn_s _ [17, 18, 19, 20, 21, 22, 23, 24, 25, 26, 27, 28, 29, 30, 31, 32, 33, 34, 35, 36, 37, 38, 39, 40, 41, 42, 43, 44, 45, 46, 47, 48, 49, 50, 51, 52, 53, 54, 55, 56, 57, 58, 59, 60, 61, 62, 63, 64, 65, 66, 67, 68, 69, 70, 71, 72, 73, 74, 75, 76, 77, 78, 79, 80, 81, 82, 83, 84, 85, 86, 87, 88, 89, 90, 91, 92, 93, 94, 95, 96, 97, 98, 99, 100, 101, 102, 103, 104, 105, 106, 107, 108, 109, 110, 111, 112, 113, 114, 115, 116, 117, 118, 119, 120, 121, 122, 123, 124, 125, 126, 127, 128, 129, 130, 131, 132, 133, 134, 135, 136, 137, 138, 139, 140, 141, 142, 143, 144, 145, 146, 147, 148, 149, 150, 151, 152, 153, 154, 155, 156, 157, 158, 159, 755, 756, 757, 758, 759, 747, 748, 749, 750, 751, 752, 753, 754, 760, 761, 762, 763, 764, 765, 766, 767, 768, 769, 770, 771, 772, 773, 774, 775, 776, 777, 778, 779, 780, 781, 782, 783, 784, 785, 786, 787, 788, 789, 790, 791, 792, 793, 794, 795, 796, 797, 798, 799, 800, 801, 802] (by decide +kernel) (by decide +kernel)
set_option maxRecDepth 20000 in
theorem gL_drills_X11_init : GoodIn wsL_drills (wsX11_init) := ggL_drills_X11_init
set_option maxRecDepth 20000 in
theorem ggL_drills_L_refuses : GoodIn wsL_drills wsL_refuses := goodIn_ca (goodIn_ca (goodIn_ca (goodIn_s _ [163, 164, 5, 165, 4, 166, 167, 168, 3, 169, 32, 170, 171, 172, 31, 173, 174, 175, 176, 177, 178, 89, 92, 179, 180, 181, 182, 183, 91, 184, 104, 105, 185, 186, 187, 188, 189, 190, 191, 192, 193, 194, 48, 24, 195, 196, 197, 23, 198, 71, 199, 200, 201, 47, 202, 203, 204, 68, 69, 70, 205, 206, 207, 208, 209, 210, 211, 212, 213, 214, 215, 151, 152, 216, 217, 218, 219, 220, 102, 221, 222, 223, 43, 224, 82, 83, 225, 226, 227, 228, 229, 230, 162, 231, 232, 233, 234, 235, 236, 237, 238, 239, 240, 241, 242, 243, 28, 244, 245, 246, 247, 248, 249, 250, 251, 252, 27, 253, 254, 255, 64, 65, 66, 67, 58, 60, 61, 62, 256, 257, 258, 259, 260, 261, 262, 263, 264, 265, 266, 267, 268, 269, 270, 271, 272, 273, 274, 275, 276, 277, 278, 279, 280, 281, 282, 283, 284, 285, 286, 287, 288, 289, 290, 291, 292, 293, 294, 295, 296, 297, 298, 299, 300, 301, 302, 303, 304, 305, 306, 307, 308, 309, 310, 78, 311, 312, 313, 314, 315, 316, 317, 318, 319, 320, 321, 322, 323, 324, 325, 326, 327, 328, 329, 330, 331, 332, 333, 334, 335, 336, 337, 338, 77, 339, 340, 341, 342, 343, 344, 345, 346, 347, 348, 349, 350, 351, 352, 353, 354, 355, 356, 357, 358, 359, 360, 361, 362, 363, 364, 365, 366, 367, 368, 369, 370, 371, 372, 373, 374, 375, 376, 377, 378, 379, 380, 381, 382, 383, 384, 385, 386, 387, 96, 388, 389, 390, 391, 392, 393, 394, 395, 396, 101, 397, 398, 399, 400, 401, 402, 403, 404, 405, 95, 406, 407, 408, 112, 113, 116, 409, 410, 411, 412, 413, 111, 414, 415, 416, 417, 418, 419, 420, 114, 421, 115, 117, 422, 423, 424, 425, 426, 427, 428, 429, 430, 431, 432, 433, 434, 435, 436, 437, 438, 439, 440, 441, 442, 443, 444, 445, 103, 446, 447, 448, 449, 450, 451, 452, 453, 454, 455, 456, 457, 458, 459, 460, 461, 462, 463, 464, 465, 466, 467, 468, 469, 470, 471, 472, 473, 474, 475, 476, 477, 478, 479, 480, 481, 482, 483, 484, 485, 486, 487, 488, 489, 490, 491, 492, 493, 494, 495, 496, 497, 498, 499, 500, 501, 502, 503, 504, 505, 506, 507, 508, 509, 36, 510, 511, 512, 35, 513, 128, 514, 515, 516, 517, 518, 127, 519, 520, 521, 522, 523, 132, 133, 134, 135, 524, 525, 526, 527, 528, 123, 124, 529, 530, 531, 532, 533, 534, 535, 536, 537, 538, 539, 540, 541, 542, 543, 544, 545, 546, 547, 548, 549, 550, 551, 552, 553, 554, 555, 556, 557, 558, 559, 560, 561, 562, 563, 564, 565, 566, 567, 568, 569, 570, 571, 572, 573, 574, 575, 576, 577, 578, 579, 580, 581, 582, 44, 583, 584, 585, 586, 587, 588, 589, 590, 591, 592, 593, 594, 595, 596, 597, 598, 599, 600, 601, 602, 603, 604, 605, 606, 607, 608, 609, 610, 611, 612, 613, 614, 52, 615, 616, 617, 51, 618, 619, 159, 620, 621, 622, 623, 624, 625, 626, 627, 157, 628, 629, 630, 631, 158, 632, 633, 634, 635, 636, 637, 638, 639, 640, 641, 642, 643, 644, 645, 646, 647, 648, 649, 650, 651, 652, 653, 654, 655, 656, 657, 658, 659, 660, 661, 662, 663, 664, 665, 666, 667, 668, 669, 670, 671, 672, 673, 674, 675, 676, 677, 678, 747, 748, 749, 750, 751, 752, 753, 754, 763, 764, 765, 766, 784, 785, 786, 787, 788, 789, 790, 755, 756, 757, 758, 759, 777, 778, 779, 775, 776, 760, 761, 762, 791, 792, 793, 794, 795, 796, 797, 798, 767, 768, 769, 770, 799, 800, 801, 802, 780, 781, 782, 783] (by decide +kernel) (by decide +kernel)) (goodIn_sub (fun _ h => List.mem_cons_of_mem _ (List.mem_append_left _ (List.mem_append_left _ (List.mem_append_right _ h)))) (by decide +kernel))) (goodIn_sub (fun _ h => List.mem_cons_of_mem _ (List.mem_append_left _ (List.mem_append_right _ h))) (by decide +kernel))) (goodIn_sub (fun _ h => List.mem_cons_of_mem _ (List.mem_append_right _ h)) (by decide +kernel))
set_option maxRecDepth 20000 in
theorem gL_drills_L_refuses : GoodIn wsL_drills (va_wsS RL 130 yL_refuses wsL_refuses) := goodIn_app (goodIn_of _ (by decide +kernel)) ggL_drills_L_refuses
set_option maxRecDepth 20000 in
theorem ggL_drills_L_act : GoodIn wsL_drills wsL_act := goodIn_ca (goodIn_ca (goodIn_ca (goodIn_s _ [231, 232, 233, 234, 165, 5, 4, 235, 236, 162, 237, 238, 239, 240, 3, 241, 242, 243, 28, 24, 244, 245, 246, 247, 248, 249, 179, 180, 250, 251, 252, 27, 253, 254, 255, 64, 65, 23, 66, 67, 68, 69, 70, 71, 58, 60, 61, 62, 256, 257, 258, 259, 260, 261, 262, 263, 195, 196, 197, 198, 264, 265, 266, 267, 268, 269, 270, 271, 272, 225, 226, 273, 274, 275, 276, 277, 278, 279, 280, 281, 282, 283, 284, 285, 286, 287, 288, 289, 290, 291, 292, 293, 294, 295, 296, 297, 298, 299, 300, 301, 302, 303, 304, 305, 306, 307, 308, 309, 310, 78, 185, 186, 187, 188, 189, 190, 311, 312, 313, 43, 314, 82, 83, 315, 316, 317, 318, 319, 320, 321, 322, 323, 324, 325, 326, 327, 328, 329, 330, 331, 332, 333, 334, 335, 336, 337, 338, 77, 339, 340, 341, 342, 343, 344, 345, 346, 347, 348, 349, 350, 351, 352, 353, 354, 355, 356, 357, 358, 359, 360, 361, 362, 363, 364, 365, 366, 367, 368, 369, 370, 32, 371, 209, 210, 31, 211, 174, 372, 373, 374, 375, 376, 377, 176, 177, 178, 89, 92, 378, 379, 380, 91, 381, 382, 104, 105, 383, 384, 385, 386, 387, 96, 175, 388, 389, 390, 391, 392, 393, 394, 395, 396, 101, 397, 218, 219, 220, 102, 398, 399, 400, 401, 402, 403, 404, 405, 95, 406, 407, 408, 112, 113, 116, 409, 410, 411, 412, 413, 111, 414, 415, 416, 222, 223, 224, 227, 228, 417, 418, 419, 420, 114, 421, 115, 117, 422, 423, 424, 425, 426, 427, 428, 429, 430, 431, 432, 433, 434, 435, 436, 437, 438, 439, 440, 441, 442, 443, 444, 445, 103, 446, 447, 448, 449, 450, 451, 452, 453, 454, 455, 456, 457, 458, 459, 460, 461, 462, 463, 464, 465, 466, 467, 468, 469, 470, 471, 472, 206, 207, 473, 474, 475, 476, 477, 478, 479, 480, 481, 482, 483, 484, 485, 486, 487, 488, 489, 490, 491, 492, 493, 494, 495, 496, 497, 498, 499, 500, 501, 502, 503, 504, 505, 506, 507, 508, 509, 36, 510, 511, 512, 35, 513, 128, 514, 515, 516, 517, 518, 127, 519, 520, 521, 522, 523, 132, 133, 134, 135, 524, 525, 526, 527, 528, 123, 124, 529, 530, 531, 532, 533, 534, 535, 536, 537, 538, 539, 540, 541, 542, 543, 544, 545, 546, 547, 548, 549, 550, 551, 552, 553, 554, 555, 556, 557, 558, 559, 560, 561, 562, 563, 564, 565, 566, 567, 568, 569, 570, 571, 572, 573, 574, 575, 576, 577, 578, 579, 580, 581, 582, 44, 583, 584, 585, 586, 587, 588, 589, 590, 591, 592, 593, 594, 595, 596, 597, 598, 599, 600, 601, 602, 603, 604, 605, 606, 607, 608, 609, 610, 611, 612, 613, 614, 52, 615, 616, 617, 51, 618, 619, 159, 620, 621, 622, 623, 624, 625, 626, 627, 157, 170, 171, 172, 173, 181, 182, 183, 184, 628, 629, 630, 631, 158, 632, 633, 634, 635, 636, 637, 638, 639, 640, 641, 642, 643, 644, 645, 646, 647, 648, 649, 650, 651, 652, 653, 654, 655, 656, 657, 658, 659, 660, 661, 662, 663, 664, 665, 666, 667, 668, 747, 748, 749, 750, 751, 752, 753, 754, 760, 761, 762, 755, 756, 757, 758, 759, 775, 776, 763, 764, 765, 766, 784, 785, 786, 787, 788, 789, 790, 791, 792, 793, 794, 795, 796, 797, 798, 767, 768, 769, 770, 799, 800, 801, 802, 780, 781, 782, 783] (by decide +kernel) (by decide +kernel)) (goodIn_sub (fun _ h => List.mem_cons_of_mem _ (List.mem_append_left _ (List.mem_append_left _ (List.mem_append_right _ h)))) (by decide +kernel))) (goodIn_sub (fun _ h => List.mem_cons_of_mem _ (List.mem_append_left _ (List.mem_append_right _ h))) (by decide +kernel))) (goodIn_sub (fun _ h => List.mem_cons_of_mem _ (List.mem_append_right _ h)) (by decide +kernel))
set_option maxRecDepth 20000 in
theorem gL_drills_L_act : GoodIn wsL_drills (va_wsS RL 121 yL_act wsL_act) := goodIn_app (goodIn_of _ (by decide +kernel)) ggL_drills_L_act
set_option maxRecDepth 20000 in
theorem ggL_drills_X11_lasts : GoodIn wsL_drills wsX11_lasts := goodIn_s _ [169, 32, 170, 171, 172, 31, 173, 174, 175, 176, 177, 178, 89, 92, 179, 3, 180, 181, 182, 183, 91, 184, 104, 105, 185, 186, 187, 188, 189, 190, 747, 748, 749, 750, 751, 752, 753, 754, 763, 764, 765, 766, 784, 785, 786, 787, 788, 789, 790] (by decide +kernel) (by decide +kernel)
set_option maxRecDepth 20000 in
theorem gL_drills_X11_lasts : GoodIn wsL_drills (wsV RL 115 RX11 yX11_lasts wsX11_lasts) := goodIn_app (goodIn_of _ (by decide +kernel)) ggL_drills_X11_lasts
set_option maxRecDepth 20000 in
theorem ggL_drills_X11_agrees : GoodIn wsL_drills wsX11_agrees := goodIn_s _ [682, 32, 36, 24, 40, 371, 209, 210, 31, 211, 174, 377, 176, 177, 178, 89, 92, 179, 3, 180, 510, 511, 512, 35, 513, 128, 514, 515, 196, 197, 23, 198, 71, 516, 517, 518, 127, 519, 520, 521, 522, 523, 132, 133, 134, 135, 524, 495, 496, 91, 497, 104, 525, 526, 527, 528, 123, 124, 529, 530, 531, 532, 533, 499, 500, 501, 101, 102, 446, 324, 325, 43, 326, 82, 225, 226, 185, 186, 187, 188, 189, 190, 534, 503, 504, 505, 447, 328, 329, 330, 83, 448, 312, 313, 314, 535, 286, 287, 288, 60, 61, 62, 536, 537, 538, 539, 105, 540, 541, 542, 543, 544, 270, 271, 272, 58, 545, 546, 547, 548, 549, 222, 223, 224, 227, 228, 550, 551, 552, 553, 554, 555, 556, 557, 558, 559, 560, 561, 562, 563, 564, 565, 566, 567, 568, 569, 570, 571, 572, 573, 574, 683, 684, 685, 39, 686, 687, 68, 69, 70, 145, 140, 141, 688, 689, 690, 691, 692, 693, 694, 695, 696, 697, 698, 699, 143, 700, 701, 702, 703, 704, 705, 706, 707, 708, 709, 710, 711, 712, 713, 714, 715, 716, 717, 718, 340, 341, 342, 343, 344, 345, 719, 720, 721, 722, 723, 400, 401, 402, 383, 195, 724, 725, 726, 727, 489, 747, 748, 749, 750, 751, 752, 753, 754, 763, 764, 765, 766, 767, 768, 769, 770, 755, 756, 757, 758, 759, 799, 800, 801, 802, 784, 785, 786, 787, 788, 789, 790, 775, 776, 771, 772, 773, 774] (by decide +kernel) (by decide +kernel)
set_option maxRecDepth 20000 in
theorem gL_drills_X11_agrees : GoodIn wsL_drills (wsV RL 134 RX11 yX11_agrees wsX11_agrees) := goodIn_app (goodIn_of _ (by decide +kernel)) ggL_drills_X11_agrees
set_option maxRecDepth 20000 in
theorem ggL_drills_X11_line : GoodIn wsL_drills wsX11_line := goodIn_ca (goodIn_ca (goodIn_s _ [303, 247, 248, 28, 24, 304, 305, 3, 306, 249, 179, 180, 195, 196, 197, 23, 198, 71, 307, 308, 309, 27, 310, 78, 185, 186, 187, 188, 189, 190, 311, 312, 313, 43, 314, 82, 83, 225, 226, 315, 316, 317, 318, 242, 243, 319, 320, 321, 322, 323, 324, 325, 326, 327, 328, 329, 330, 250, 251, 252, 253, 254, 331, 332, 333, 334, 335, 336, 337, 338, 77, 339, 340, 341, 342, 343, 344, 345, 747, 748, 749, 750, 751, 752, 753, 754, 755, 756, 757, 758, 759, 760, 761, 762, 775, 776] (by decide +kernel) (by decide +kernel)) (goodIn_sub (fun _ h => List.mem_cons_of_mem _ (List.mem_append_left _ (List.mem_append_right _ h))) (by decide +kernel))) (goodIn_sub (fun _ h => List.mem_cons_of_mem _ (List.mem_append_left _ (List.mem_append_left _ (List.mem_append_right _ h)))) (by decide +kernel))
set_option maxRecDepth 20000 in
theorem gL_drills_X11_line : GoodIn wsL_drills (wsV RL 41 RX11 yX11_line wsX11_line) := goodIn_app (goodIn_of _ (by decide +kernel)) ggL_drills_X11_line
set_option maxRecDepth 20000 in
theorem ggL_drills_X11_block : GoodIn wsL_drills wsX11_block := goodIn_ca (goodIn_ca (goodIn_s _ [349, 28, 24, 244, 245, 3, 246, 247, 248, 249, 179, 180, 195, 196, 197, 23, 198, 71, 350, 351, 352, 27, 353, 78, 354, 355, 356, 357, 189, 358, 185, 186, 187, 188, 190, 311, 312, 313, 43, 314, 82, 83, 225, 226, 315, 316, 317, 318, 242, 243, 319, 320, 321, 322, 323, 324, 325, 326, 327, 328, 329, 330, 305, 306, 250, 251, 252, 253, 254, 331, 332, 333, 334, 335, 336, 337, 338, 77, 339, 340, 341, 342, 343, 344, 345, 747, 748, 749, 750, 751, 752, 753, 754, 755, 756, 757, 758, 759, 760, 761, 762, 775, 776] (by decide +kernel) (by decide +kernel)) (goodIn_sub (fun _ h => List.mem_cons_of_mem _ (List.mem_append_left _ (List.mem_append_right _ h))) (by decide +kernel))) (goodIn_sub (fun _ h => List.mem_cons_of_mem _ (List.mem_append_left _ (List.mem_append_left _ (List.mem_append_right _ h)))) (by decide +kernel))
set_option maxRecDepth 20000 in
theorem gL_drills_X11_block : GoodIn wsL_drills (wsV RL 45 RX11 yX11_block wsX11_block) := goodIn_app (goodIn_of _ (by decide +kernel)) ggL_drills_X11_block
set_option maxRecDepth 20000 in
theorem ggL_drills_X11_wedge : GoodIn wsL_drills wsX11_wedge := goodIn_ca (goodIn_ca (goodIn_s _ [362, 28, 24, 244, 245, 3, 246, 247, 248, 249, 179, 180, 195, 196, 197, 23, 198, 71, 363, 364, 365, 27, 366, 78, 185, 186, 187, 188, 189, 190, 354, 355, 356, 357, 358, 311, 312, 313, 43, 314, 82, 83, 225, 226, 315, 316, 317, 318, 242, 243, 319, 320, 321, 322, 323, 324, 325, 326, 327, 328, 329, 330, 305, 306, 250, 251, 252, 253, 254, 331, 332, 333, 334, 335, 336, 337, 338, 77, 339, 340, 341, 342, 343, 344, 345, 747, 748, 749, 750, 751, 752, 753, 754, 755, 756, 757, 758, 759, 760, 761, 762, 775, 776] (by decide +kernel) (by decide +kernel)) (goodIn_sub (fun _ h => List.mem_cons_of_mem _ (List.mem_append_left _ (List.mem_append_right _ h))) (by decide +kernel))) (goodIn_sub (fun _ h => List.mem_cons_of_mem _ (List.mem_append_left _ (List.mem_append_left _ (List.mem_append_right _ h)))) (by decide +kernel))
set_option maxRecDepth 20000 in
theorem gL_drills_X11_wedge : GoodIn wsL_drills (wsV RL 48 RX11 yX11_wedge wsX11_wedge) := goodIn_app (goodIn_of _ (by decide +kernel)) ggL_drills_X11_wedge
set_option maxRecDepth 20000 in
theorem ggL_drills_X11_part : GoodIn wsL_drills wsX11_part := goodIn_ca (goodIn_ca (goodIn_ca (goodIn_s _ [370, 242, 243, 28, 32, 24, 250, 251, 252, 27, 253, 254, 264, 265, 3, 266, 267, 268, 249, 179, 180, 244, 245, 246, 247, 248, 371, 209, 210, 31, 211, 174, 372, 373, 374, 375, 376, 68, 69, 70, 377, 176, 177, 178, 89, 92, 378, 379, 380, 91, 381, 382, 104, 105, 383, 195, 196, 197, 23, 198, 71, 384, 385, 386, 387, 96, 175, 388, 389, 390, 391, 392, 336, 337, 338, 77, 78, 393, 394, 395, 396, 101, 397, 218, 219, 220, 102, 398, 340, 341, 43, 342, 343, 324, 325, 326, 82, 225, 226, 344, 328, 329, 330, 83, 345, 312, 313, 314, 399, 400, 401, 402, 403, 404, 405, 95, 406, 407, 408, 112, 113, 116, 409, 410, 411, 412, 413, 111, 414, 415, 416, 222, 223, 224, 227, 228, 417, 418, 419, 420, 114, 421, 115, 117, 422, 423, 424, 425, 426, 427, 428, 429, 430, 431, 432, 433, 434, 435, 436, 437, 438, 439, 440, 441, 442, 443, 444, 445, 103, 446, 447, 448, 449, 450, 451, 452, 747, 748, 749, 750, 751, 752, 753, 754, 760, 761, 762, 763, 764, 765, 766, 784, 785, 786, 787, 788, 789, 790, 755, 756, 757, 758, 759, 775, 776, 791, 792, 793, 794, 795, 796, 797, 798] (by decide +kernel) (by decide +kernel)) (goodIn_sub (fun _ h => List.mem_cons_of_mem _ (List.mem_append_left _ (List.mem_append_left _ (List.mem_append_right _ h)))) (by decide +kernel))) (goodIn_sub (fun _ h => List.mem_cons_of_mem _ (List.mem_append_right _ h)) (by decide +kernel))) (goodIn_sub (fun _ h => List.mem_cons_of_mem _ (List.mem_append_left _ (List.mem_append_right _ h))) (by decide +kernel))
set_option maxRecDepth 20000 in
theorem gL_drills_X11_part : GoodIn wsL_drills (wsV RL 52 RX11 yX11_part wsX11_part) := goodIn_app (goodIn_of _ (by decide +kernel)) ggL_drills_X11_part
set_option maxRecDepth 20000 in
theorem ggL_drills_X11_place : GoodIn wsL_drills wsX11_place := goodIn_ca (goodIn_s _ [476, 32, 460, 461, 462, 3, 463, 371, 209, 210, 31, 211, 174, 264, 265, 266, 267, 268, 249, 179, 180, 260, 261, 262, 263, 24, 195, 196, 197, 23, 198, 71, 377, 176, 177, 178, 89, 92, 477, 478, 479, 91, 480, 103, 225, 226, 747, 748, 749, 750, 751, 752, 753, 754, 763, 764, 765, 766, 755, 756, 757, 758, 759, 784, 785, 786, 787, 788, 789, 790] (by decide +kernel) (by decide +kernel)) (goodIn_sub (fun _ h => List.mem_cons_of_mem _ (List.mem_append_right _ h)) (by decide +kernel))
set_option maxRecDepth 20000 in
theorem gL_drills_X11_place : GoodIn wsL_drills (wsV RL 63 RX11 yX11_place wsX11_place) := goodIn_app (goodIn_of _ (by decide +kernel)) ggL_drills_X11_place
set_option maxRecDepth 20000 in
theorem ggL_drills_X11_walking : GoodIn wsL_drills wsX11_walking := goodIn_ca (goodIn_s _ [484, 32, 24, 460, 461, 462, 3, 463, 371, 209, 210, 31, 211, 174, 264, 265, 266, 267, 268, 249, 179, 180, 377, 176, 177, 178, 89, 92, 195, 196, 197, 23, 198, 71, 485, 486, 487, 91, 488, 101, 102, 489, 222, 223, 43, 224, 82, 83, 225, 226, 227, 228, 747, 748, 749, 750, 751, 752, 753, 754, 763, 764, 765, 766, 755, 756, 757, 758, 759, 784, 785, 786, 787, 788, 789, 790, 775, 776] (by decide +kernel) (by decide +kernel)) (goodIn_sub (fun _ h => List.mem_cons_of_mem _ (List.mem_append_right _ h)) (by decide +kernel))
set_option maxRecDepth 20000 in
theorem gL_drills_X11_walking : GoodIn wsL_drills (wsV RL 66 RX11 yX11_walking wsX11_walking) := goodIn_app (goodIn_of _ (by decide +kernel)) ggL_drills_X11_walking
set_option maxRecDepth 20000 in
theorem ggL_drills_X11_at : GoodIn wsL_drills wsX11_at := goodIn_ca (goodIn_ca (goodIn_s _ [493, 32, 460, 461, 462, 3, 463, 371, 209, 210, 31, 211, 174, 264, 265, 266, 267, 268, 249, 179, 180, 260, 261, 262, 263, 24, 195, 196, 197, 23, 198, 71, 377, 176, 177, 178, 89, 92, 494, 495, 496, 91, 497, 104, 244, 245, 246, 247, 248, 498, 499, 500, 501, 101, 102, 446, 324, 325, 43, 326, 82, 225, 226, 185, 186, 187, 188, 189, 190, 502, 503, 504, 505, 447, 328, 329, 330, 83, 747, 748, 749, 750, 751, 752, 753, 754, 763, 764, 765, 766, 755, 756, 757, 758, 759, 784, 785, 786, 787, 788, 789, 790, 775, 776] (by decide +kernel) (by decide +kernel)) (goodIn_sub (fun _ h => List.mem_cons_of_mem _ (List.mem_append_right _ h)) (by decide +kernel))) (goodIn_sub (fun _ h => List.mem_cons_of_mem _ (List.mem_append_left _ (List.mem_append_right _ h))) (by decide +kernel))
set_option maxRecDepth 20000 in
theorem gL_drills_X11_at : GoodIn wsL_drills (wsV RL 70 RX11 yX11_at wsX11_at) := goodIn_app (goodIn_of _ (by decide +kernel)) ggL_drills_X11_at
set_option maxRecDepth 20000 in
theorem ggL_drills_L_fault : GoodIn wsL_drills wsL_fault := goodIn_ca (goodIn_ca (goodIn_s _ [730, 506, 507, 508, 3, 509, 36, 32, 24, 460, 461, 462, 463, 371, 209, 210, 31, 211, 174, 264, 265, 266, 267, 268, 249, 179, 180, 244, 245, 246, 247, 248, 377, 176, 177, 178, 89, 92, 510, 511, 512, 35, 513, 128, 514, 515, 196, 197, 23, 198, 71, 516, 517, 518, 127, 519, 520, 521, 522, 523, 132, 133, 134, 135, 524, 495, 496, 91, 497, 104, 525, 526, 527, 528, 123, 124, 529, 530, 531, 532, 533, 499, 500, 501, 101, 102, 446, 324, 325, 43, 326, 82, 225, 226, 185, 186, 187, 188, 189, 190, 534, 503, 504, 505, 447, 328, 329, 330, 83, 448, 312, 313, 314, 535, 286, 287, 288, 60, 61, 62, 536, 537, 538, 539, 105, 540, 541, 542, 543, 544, 270, 271, 272, 58, 545, 546, 547, 548, 549, 222, 223, 224, 227, 228, 550, 551, 552, 553, 554, 555, 556, 557, 558, 559, 560, 561, 562, 563, 564, 565, 566, 567, 568, 569, 570, 571, 572, 573, 574, 575, 576, 577, 578, 747, 748, 749, 750, 751, 752, 753, 754, 763, 764, 765, 766, 767, 768, 769, 770, 755, 756, 757, 758, 759, 799, 800, 801, 802, 784, 785, 786, 787, 788, 789, 790, 775, 776] (by decide +kernel) (by decide +kernel)) (goodIn_sub (fun _ h => List.mem_cons_of_mem _ (List.mem_append_right _ h)) (by decide +kernel))) (goodIn_sub (fun _ h => List.mem_cons_of_mem _ (List.mem_append_left _ (List.mem_append_right _ h))) (by decide +kernel))
set_option maxRecDepth 20000 in
theorem gL_drills_L_fault : GoodIn wsL_drills (va_wsS RL 140 yL_fault wsL_fault) := goodIn_app (goodIn_of _ (by decide +kernel)) ggL_drills_L_fault
set_option maxRecDepth 20000 in
theorem ggL_drills_X11_ill : GoodIn wsL_drills wsX11_ill := goodIn_ca (goodIn_s _ [280, 24, 260, 261, 262, 3, 263, 195, 196, 197, 23, 198, 71, 264, 265, 266, 267, 268, 249, 179, 180, 281, 282, 283, 284, 60, 225, 226, 285, 286, 287, 288, 61, 62, 747, 748, 749, 750, 751, 752, 753, 754, 755, 756, 757, 758, 759] (by decide +kernel) (by decide +kernel)) (goodIn_sub (fun _ h => List.mem_cons_of_mem _ (List.mem_append_right _ h)) (by decide +kernel))
set_option maxRecDepth 20000 in
theorem gL_drills_X11_ill : GoodIn wsL_drills (wsV RL 34 RX11 yX11_ill wsX11_ill) := goodIn_app (goodIn_of _ (by decide +kernel)) ggL_drills_X11_ill
set_option maxRecDepth 20000 in
theorem ggL_drills_X11_legs : GoodIn wsL_drills wsX11_legs := goodIn_ca (goodIn_ca (goodIn_s _ [259, 24, 260, 261, 262, 3, 263, 195, 196, 197, 23, 198, 71, 264, 265, 266, 267, 268, 249, 179, 180, 244, 245, 246, 247, 248, 269, 270, 271, 272, 58, 225, 226, 273, 274, 275, 276, 747, 748, 749, 750, 751, 752, 753, 754, 755, 756, 757, 758, 759] (by decide +kernel) (by decide +kernel)) (goodIn_sub (fun _ h => List.mem_cons_of_mem _ (List.mem_append_right _ h)) (by decide +kernel))) (goodIn_sub (fun _ h => List.mem_cons_of_mem _ (List.mem_append_left _ (List.mem_append_right _ h))) (by decide +kernel))
set_option maxRecDepth 20000 in
theorem gL_drills_X11_legs : GoodIn wsL_drills (wsV RL 30 RX11 yX11_legs wsX11_legs) := goodIn_app (goodIn_of _ (by decide +kernel)) ggL_drills_X11_legs
set_option maxRecDepth 20000 in
theorem ggL_drills_X11_cut : GoodIn wsL_drills wsX11_cut := goodIn_ca (goodIn_s _ [467, 242, 243, 32, 371, 209, 210, 31, 211, 174, 468, 469, 470, 471, 472, 206, 69, 207, 747, 748, 749, 750, 751, 752, 753, 754, 763, 764, 765, 766] (by decide +kernel) (by decide +kernel)) (goodIn_sub (fun _ h => List.mem_cons_of_mem _ (List.mem_append_left _ (List.mem_append_left _ (List.mem_append_right _ h)))) (by decide +kernel))
set_option maxRecDepth 20000 in
theorem gL_drills_X11_cut : GoodIn wsL_drills (wsV RL 59 RX11 yX11_cut wsX11_cut) := goodIn_app (goodIn_of _ (by decide +kernel)) ggL_drills_X11_cut
set_option maxRecDepth 20000 in
theorem ggL_drills_L_crosses : GoodIn wsL_drills wsL_crosses := goodIn_ca (goodIn_ca (goodIn_ca (goodIn_s _ [733, 1, 2, 3, 734, 15, 16, 17, 18, 19, 20, 21, 22, 23, 24, 25, 26, 27, 28, 29, 30, 31, 32, 33, 34, 35, 36, 37, 38, 39, 40, 41, 42, 43, 44, 45, 46, 47, 48, 49, 50, 51, 52, 53, 54, 55, 56, 57, 58, 59, 60, 61, 62, 63, 64, 65, 66, 67, 68, 69, 70, 71, 72, 73, 74, 75, 76, 77, 78, 79, 80, 81, 82, 83, 84, 85, 86, 87, 88, 89, 90, 91, 92, 93, 94, 95, 96, 97, 98, 99, 100, 101, 102, 103, 104, 105, 106, 107, 108, 109, 110, 111, 112, 113, 114, 115, 116, 117, 118, 119, 120, 121, 122, 123, 124, 125, 126, 127, 128, 129, 130, 131, 132, 133, 134, 135, 136, 137, 138, 139, 140, 141, 142, 143, 144, 145, 146, 147, 148, 149, 150, 151, 152, 153, 154, 155, 156, 157, 158, 159, 229, 230, 162, 231, 232, 233, 234, 165, 5, 4, 235, 236, 237, 238, 239, 240, 241, 242, 243, 244, 245, 246, 247, 248, 249, 179, 180, 250, 251, 252, 253, 254, 255, 256, 257, 258, 259, 260, 261, 262, 263, 195, 196, 197, 198, 264, 265, 266, 267, 268, 269, 270, 271, 272, 225, 226, 273, 274, 275, 276, 277, 278, 279, 280, 281, 282, 283, 284, 285, 286, 287, 288, 289, 290, 291, 292, 293, 294, 295, 296, 297, 298, 299, 300, 301, 302, 303, 304, 305, 306, 307, 308, 309, 310, 185, 186, 187, 188, 189, 190, 311, 312, 313, 314, 315, 316, 317, 318, 319, 320, 321, 322, 323, 324, 325, 326, 327, 328, 329, 330, 331, 332, 333, 334, 335, 336, 337, 338, 339, 340, 341, 342, 343, 344, 345, 346, 347, 348, 349, 350, 351, 352, 353, 354, 355, 356, 357, 358, 359, 360, 361, 362, 363, 364, 365, 366, 367, 368, 369, 370, 371, 209, 210, 211, 174, 372, 373, 374, 375, 376, 377, 176, 177, 178, 378, 379, 380, 381, 382, 383, 384, 385, 386, 387, 175, 388, 389, 390, 391, 392, 393, 394, 395, 396, 397, 218, 219, 220, 398, 399, 400, 401, 402, 403, 404, 405, 406, 407, 408, 409, 410, 411, 412, 413, 414, 415, 416, 222, 223, 224, 227, 228, 417, 418, 419, 420, 421, 422, 423, 424, 425, 426, 427, 428, 429, 430, 431, 432, 433, 434, 435, 436, 437, 438, 439, 440, 441, 442, 443, 444, 445, 446, 447, 448, 449, 450, 451, 452, 453, 454, 455, 456, 457, 458, 459, 460, 461, 462, 463, 464, 465, 466, 467, 468, 469, 470, 471, 472, 206, 207, 473, 474, 475, 476, 477, 478, 479, 480, 481, 482, 483, 484, 485, 486, 487, 488, 489, 490, 491, 492, 493, 494, 495, 496, 497, 498, 499, 500, 501, 502, 503, 504, 505, 506, 507, 508, 509, 510, 511, 512, 513, 514, 515, 516, 517, 518, 519, 520, 521, 522, 523, 524, 525, 526, 527, 528, 529, 530, 531, 532, 533, 534, 535, 536, 537, 538, 539, 540, 541, 542, 543, 544, 545, 546, 547, 548, 549, 550, 551, 552, 553, 554, 555, 556, 557, 558, 559, 560, 561, 562, 563, 564, 565, 566, 567, 568, 569, 570, 571, 572, 573, 574, 575, 576, 577, 578, 579, 580, 581, 582, 583, 584, 585, 586, 587, 588, 589, 590, 591, 592, 593, 594, 595, 596, 597, 598, 599, 600, 601, 602, 603, 604, 605, 606, 607, 608, 609, 610, 611, 612, 613, 614, 615, 616, 617, 618, 619, 620, 621, 622, 623, 624, 625, 626, 627, 170, 171, 172, 173, 181, 182, 183, 184, 628, 629, 630, 631, 632, 633, 634, 635, 636, 637, 638, 639, 640, 641, 642, 643, 644, 645, 646, 647, 648, 649, 650, 651, 652, 653, 654, 655, 656, 657, 658, 659, 660, 661, 662, 663, 664, 665, 666, 667, 668, 728, 729, 730, 679, 680, 681, 682, 683, 684, 685, 686, 687, 688, 689, 690, 691, 692, 693, 694, 695, 696, 697, 698, 699, 700, 701, 702, 703, 704, 705, 706, 707, 708, 709, 710, 711, 712, 713, 714, 715, 716, 717, 718, 719, 720, 721, 722, 723, 724, 725, 726, 727, 669, 670, 671, 672, 673, 674, 675, 676, 677, 678, 191, 192, 193, 194, 199, 200, 201, 202, 203, 204, 205, 208, 212, 213, 214, 215, 216, 217, 221, 735, 736, 737, 738, 739, 740, 741, 742, 743, 160, 161, 163, 164, 166, 167, 168, 169, 747, 748, 749, 750, 751, 752, 753, 754, 755, 756, 757, 758, 759, 760, 761, 762, 763, 764, 765, 766, 767, 768, 769, 770, 771, 772, 773, 774, 775, 776, 777, 778, 779, 780, 781, 782, 783, 784, 785, 786, 787, 788, 789, 790, 791, 792, 793, 794, 795, 796, 797, 798, 799, 800, 801, 802] (by decide +kernel) (by decide +kernel)) (goodIn_sub (fun _ h => List.mem_cons_of_mem _ (List.mem_append_left _ (List.mem_append_left _ (List.mem_append_right _ h)))) (by decide +kernel))) (goodIn_sub (fun _ h => List.mem_cons_of_mem _ (List.mem_append_left _ (List.mem_append_right _ h))) (by decide +kernel))) (goodIn_sub (fun _ h => List.mem_cons_of_mem _ (List.mem_append_right _ h)) (by decide +kernel))
set_option maxRecDepth 20000 in
theorem gL_drills_L_crosses : GoodIn wsL_drills (va_wsS RL 152 yL_crosses wsL_crosses) := goodIn_app (goodIn_of _ (by decide +kernel)) ggL_drills_L_crosses
set_option maxRecDepth 20000 in
theorem ggL_drills_L_judges : GoodIn wsL_drills wsL_judges := goodIn_ca (goodIn_ca (goodIn_ca (goodIn_s _ [746, 1, 2, 3, 4, 15, 16, 17, 18, 19, 20, 21, 22, 23, 24, 25, 26, 27, 28, 29, 30, 31, 32, 33, 34, 35, 36, 37, 38, 39, 40, 41, 42, 43, 44, 45, 46, 47, 48, 49, 50, 51, 52, 53, 54, 55, 56, 57, 58, 59, 60, 61, 62, 63, 64, 65, 66, 67, 68, 69, 70, 71, 72, 73, 74, 75, 76, 77, 78, 79, 80, 81, 82, 83, 84, 85, 86, 87, 88, 89, 90, 91, 92, 93, 94, 95, 96, 97, 98, 99, 100, 101, 102, 103, 104, 105, 106, 107, 108, 109, 110, 111, 112, 113, 114, 115, 116, 117, 118, 119, 120, 121, 122, 123, 124, 125, 126, 127, 128, 129, 130, 131, 132, 133, 134, 135, 136, 137, 138, 139, 140, 141, 142, 143, 144, 145, 146, 147, 148, 149, 150, 151, 152, 153, 154, 155, 156, 157, 158, 159, 229, 230, 162, 231, 232, 233, 234, 165, 5, 235, 236, 237, 238, 239, 240, 241, 242, 243, 244, 245, 246, 247, 248, 249, 179, 180, 250, 251, 252, 253, 254, 255, 256, 257, 258, 259, 260, 261, 262, 263, 195, 196, 197, 198, 264, 265, 266, 267, 268, 269, 270, 271, 272, 225, 226, 273, 274, 275, 276, 277, 278, 279, 280, 281, 282, 283, 284, 285, 286, 287, 288, 289, 290, 291, 292, 293, 294, 295, 296, 297, 298, 299, 300, 301, 302, 303, 304, 305, 306, 307, 308, 309, 310, 185, 186, 187, 188, 189, 190, 311, 312, 313, 314, 315, 316, 317, 318, 319, 320, 321, 322, 323, 324, 325, 326, 327, 328, 329, 330, 331, 332, 333, 334, 335, 336, 337, 338, 339, 340, 341, 342, 343, 344, 345, 346, 347, 348, 349, 350, 351, 352, 353, 354, 355, 356, 357, 358, 359, 360, 361, 362, 363, 364, 365, 366, 367, 368, 369, 370, 371, 209, 210, 211, 174, 372, 373, 374, 375, 376, 377, 176, 177, 178, 378, 379, 380, 381, 382, 383, 384, 385, 386, 387, 175, 388, 389, 390, 391, 392, 393, 394, 395, 396, 397, 218, 219, 220, 398, 399, 400, 401, 402, 403, 404, 405, 406, 407, 408, 409, 410, 411, 412, 413, 414, 415, 416, 222, 223, 224, 227, 228, 417, 418, 419, 420, 421, 422, 423, 424, 425, 426, 427, 428, 429, 430, 431, 432, 433, 434, 435, 436, 437, 438, 439, 440, 441, 442, 443, 444, 445, 446, 447, 448, 449, 450, 451, 452, 453, 454, 455, 456, 457, 458, 459, 460, 461, 462, 463, 464, 465, 466, 467, 468, 469, 470, 471, 472, 206, 207, 473, 474, 475, 476, 477, 478, 479, 480, 481, 482, 483, 484, 485, 486, 487, 488, 489, 490, 491, 492, 493, 494, 495, 496, 497, 498, 499, 500, 501, 502, 503, 504, 505, 506, 507, 508, 509, 510, 511, 512, 513, 514, 515, 516, 517, 518, 519, 520, 521, 522, 523, 524, 525, 526, 527, 528, 529, 530, 531, 532, 533, 534, 535, 536, 537, 538, 539, 540, 541, 542, 543, 544, 545, 546, 547, 548, 549, 550, 551, 552, 553, 554, 555, 556, 557, 558, 559, 560, 561, 562, 563, 564, 565, 566, 567, 568, 569, 570, 571, 572, 573, 574, 575, 576, 577, 578, 579, 580, 581, 582, 583, 584, 585, 586, 587, 588, 589, 590, 591, 592, 593, 594, 595, 596, 597, 598, 599, 600, 601, 602, 603, 604, 605, 606, 607, 608, 609, 610, 611, 612, 613, 614, 615, 616, 617, 618, 619, 620, 621, 622, 623, 624, 625, 626, 627, 170, 171, 172, 173, 181, 182, 183, 184, 628, 629, 630, 631, 632, 633, 634, 635, 636, 637, 638, 639, 640, 641, 642, 643, 644, 645, 646, 647, 648, 649, 650, 651, 652, 653, 654, 655, 656, 657, 658, 659, 660, 661, 662, 663, 664, 665, 666, 667, 668, 166, 167, 168, 169, 679, 680, 681, 682, 683, 684, 685, 686, 687, 688, 689, 690, 691, 692, 693, 694, 695, 696, 697, 698, 699, 700, 701, 702, 703, 704, 705, 706, 707, 708, 709, 710, 711, 712, 713, 714, 715, 716, 717, 718, 719, 720, 721, 722, 723, 724, 725, 726, 727, 160, 161, 163, 164, 191, 192, 193, 194, 199, 200, 201, 202, 203, 204, 205, 208, 212, 213, 214, 215, 216, 217, 221, 669, 670, 671, 672, 673, 674, 675, 676, 677, 678, 747, 748, 749, 750, 751, 752, 753, 754, 755, 756, 757, 758, 759, 760, 761, 762, 763, 764, 765, 766, 767, 768, 769, 770, 771, 772, 773, 774, 775, 776, 777, 778, 779, 780, 781, 782, 783, 784, 785, 786, 787, 788, 789, 790, 791, 792, 793, 794, 795, 796, 797, 798, 799, 800, 801, 802] (by decide +kernel) (by decide +kernel)) (goodIn_sub (fun _ h => List.mem_cons_of_mem _ (List.mem_append_left _ (List.mem_append_left _ (List.mem_append_right _ h)))) (by decide +kernel))) (goodIn_sub (fun _ h => List.mem_cons_of_mem _ (List.mem_append_left _ (List.mem_append_right _ h))) (by decide +kernel))) (goodIn_sub (fun _ h => List.mem_cons_of_mem _ (List.mem_append_right _ h)) (by decide +kernel))
set_option maxRecDepth 20000 in
theorem gL_drills_L_judges : GoodIn wsL_drills (va_wsS RL 155 yL_judges wsL_judges) := goodIn_app (goodIn_of _ (by decide +kernel)) ggL_drills_L_judges
theorem dL_drills_0 : decode cL_drills 0 = .ok (.new 8, 3) := by decide +kernel
theorem dL_drills_3 : decode cL_drills 3 = .ok (.dup, 1) := by decide +kernel
theorem dL_drills_4 : decode cL_drills 4 = .ok (.invokespecial 129, 3) := by decide +kernel
theorem dL_drills_7 : decode cL_drills 7 = .ok (.astore_n 0, 1) := by decide +kernel
theorem dL_drills_8 : decode cL_drills 8 = .ok (.aload_n 0, 1) := by decide +kernel
theorem dL_drills_9 : decode cL_drills 9 = .ok (.iconst 4, 1) := by decide +kernel
theorem dL_drills_10 : decode cL_drills 10 = .ok (.iconst 0, 1) := by decide +kernel
theorem dL_drills_11 : decode cL_drills 11 = .ok (.iconst 0, 1) := by decide +kernel
theorem dL_drills_12 : decode cL_drills 12 = .ok (.iconst 0, 1) := by decide +kernel
theorem dL_drills_13 : decode cL_drills 13 = .ok (.invokestatic 130, 3) := by decide +kernel
theorem dL_drills_16 : decode cL_drills 16 = .ok (.ifCond .eq 497, 3) := by decide +kernel
theorem dL_drills_19 : decode cL_drills 19 = .ok (.aload_n 0, 1) := by decide +kernel
theorem dL_drills_20 : decode cL_drills 20 = .ok (.bipush 9, 2) := by decide +kernel
theorem dL_drills_22 : decode cL_drills 22 = .ok (.iconst 0, 1) := by decide +kernel
theorem dL_drills_23 : decode cL_drills 23 = .ok (.iconst 0, 1) := by decide +kernel
theorem dL_drills_24 : decode cL_drills 24 = .ok (.iconst 0, 1) := by decide +kernel
theorem dL_drills_25 : decode cL_drills 25 = .ok (.iconst 0, 1) := by decide +kernel
theorem dL_drills_26 : decode cL_drills 26 = .ok (.invokestatic 121, 3) := by decide +kernel
theorem dL_drills_29 : decode cL_drills 29 = .ok (.ldc2_w 108, 3) := by decide +kernel
theorem dL_drills_32 : decode cL_drills 32 = .ok (.lcmp, 1) := by decide +kernel
theorem dL_drills_33 : decode cL_drills 33 = .ok (.ifCond .ne 480, 3) := by decide +kernel
theorem dL_drills_36 : decode cL_drills 36 = .ok (.aload_n 0, 1) := by decide +kernel
theorem dL_drills_37 : decode cL_drills 37 = .ok (.invokevirtual 115, 3) := by decide +kernel
theorem dL_drills_40 : decode cL_drills 40 = .ok (.ifCond .ne 473, 3) := by decide +kernel
theorem dL_drills_43 : decode cL_drills 43 = .ok (.aload_n 0, 1) := by decide +kernel
theorem dL_drills_44 : decode cL_drills 44 = .ok (.invokevirtual 134, 3) := by decide +kernel
theorem dL_drills_47 : decode cL_drills 47 = .ok (.ifCond .eq 466, 3) := by decide +kernel
theorem dL_drills_50 : decode cL_drills 50 = .ok (.aload_n 0, 1) := by decide +kernel
theorem dL_drills_51 : decode cL_drills 51 = .ok (.iconst 0, 1) := by decide +kernel
theorem dL_drills_52 : decode cL_drills 52 = .ok (.iconst 3, 1) := by decide +kernel
theorem dL_drills_53 : decode cL_drills 53 = .ok (.iconst 0, 1) := by decide +kernel
theorem dL_drills_54 : decode cL_drills 54 = .ok (.iconst 0, 1) := by decide +kernel
theorem dL_drills_55 : decode cL_drills 55 = .ok (.iconst 0, 1) := by decide +kernel
theorem dL_drills_56 : decode cL_drills 56 = .ok (.invokestatic 121, 3) := by decide +kernel
theorem dL_drills_59 : decode cL_drills 59 = .ok (.lconst 1, 1) := by decide +kernel
theorem dL_drills_60 : decode cL_drills 60 = .ok (.lcmp, 1) := by decide +kernel
theorem dL_drills_61 : decode cL_drills 61 = .ok (.ifCond .ne 452, 3) := by decide +kernel
theorem dL_drills_64 : decode cL_drills 64 = .ok (.aload_n 0, 1) := by decide +kernel
theorem dL_drills_65 : decode cL_drills 65 = .ok (.iconst 0, 1) := by decide +kernel
theorem dL_drills_66 : decode cL_drills 66 = .ok (.iconst 0, 1) := by decide +kernel
theorem dL_drills_67 : decode cL_drills 67 = .ok (.bipush 100, 2) := by decide +kernel
theorem dL_drills_69 : decode cL_drills 69 = .ok (.bipush 50, 2) := by decide +kernel
theorem dL_drills_71 : decode cL_drills 71 = .ok (.invokevirtual 41, 3) := by decide +kernel
theorem dL_drills_74 : decode cL_drills 74 = .ok (.ifCond .ne 439, 3) := by decide +kernel
theorem dL_drills_77 : decode cL_drills 77 = .ok (.aload_n 0, 1) := by decide +kernel
theorem dL_drills_78 : decode cL_drills 78 = .ok (.bipush 100, 2) := by decide +kernel
theorem dL_drills_80 : decode cL_drills 80 = .ok (.bipush 50, 2) := by decide +kernel
theorem dL_drills_82 : decode cL_drills 82 = .ok (.iconst 0, 1) := by decide +kernel
theorem dL_drills_83 : decode cL_drills 83 = .ok (.iconst 0, 1) := by decide +kernel
theorem dL_drills_84 : decode cL_drills 84 = .ok (.invokevirtual 41, 3) := by decide +kernel
theorem dL_drills_87 : decode cL_drills 87 = .ok (.iconst 1, 1) := by decide +kernel
theorem dL_drills_88 : decode cL_drills 88 = .ok (.if_icmp .ne 425, 3) := by decide +kernel
theorem dL_drills_91 : decode cL_drills 91 = .ok (.aload_n 0, 1) := by decide +kernel
theorem dL_drills_92 : decode cL_drills 92 = .ok (.bipush 100, 2) := by decide +kernel
theorem dL_drills_94 : decode cL_drills 94 = .ok (.iconst 0, 1) := by decide +kernel
theorem dL_drills_95 : decode cL_drills 95 = .ok (.bipush 99, 2) := by decide +kernel
theorem dL_drills_97 : decode cL_drills 97 = .ok (.iconst 0, 1) := by decide +kernel
theorem dL_drills_98 : decode cL_drills 98 = .ok (.invokevirtual 41, 3) := by decide +kernel
theorem dL_drills_101 : decode cL_drills 101 = .ok (.iconst 2, 1) := by decide +kernel
theorem dL_drills_102 : decode cL_drills 102 = .ok (.if_icmp .ne 411, 3) := by decide +kernel
theorem dL_drills_105 : decode cL_drills 105 = .ok (.aload_n 0, 1) := by decide +kernel
theorem dL_drills_106 : decode cL_drills 106 = .ok (.bipush 10, 2) := by decide +kernel
theorem dL_drills_108 : decode cL_drills 108 = .ok (.bipush 10, 2) := by decide +kernel
theorem dL_drills_110 : decode cL_drills 110 = .ok (.iconst 2, 1) := by decide +kernel
theorem dL_drills_111 : decode cL_drills 111 = .ok (.bipush 20, 2) := by decide +kernel
theorem dL_drills_113 : decode cL_drills 113 = .ok (.invokevirtual 45, 3) := by decide +kernel
theorem dL_drills_116 : decode cL_drills 116 = .ok (.iconst 3, 1) := by decide +kernel
theorem dL_drills_117 : decode cL_drills 117 = .ok (.if_icmp .ne 396, 3) := by decide +kernel
theorem dL_drills_120 : decode cL_drills 120 = .ok (.aload_n 0, 1) := by decide +kernel
theorem dL_drills_121 : decode cL_drills 121 = .ok (.sipush 500, 3) := by decide +kernel
theorem dL_drills_124 : decode cL_drills 124 = .ok (.bipush 100, 2) := by decide +kernel
theorem dL_drills_126 : decode cL_drills 126 = .ok (.bipush 10, 2) := by decide +kernel
theorem dL_drills_128 : decode cL_drills 128 = .ok (.invokevirtual 48, 3) := by decide +kernel
theorem dL_drills_131 : decode cL_drills 131 = .ok (.iconst 4, 1) := by decide +kernel
theorem dL_drills_132 : decode cL_drills 132 = .ok (.if_icmp .ne 381, 3) := by decide +kernel
theorem dL_drills_135 : decode cL_drills 135 = .ok (.aload_n 0, 1) := by decide +kernel
theorem dL_drills_136 : decode cL_drills 136 = .ok (.iconst 5, 1) := by decide +kernel
theorem dL_drills_137 : decode cL_drills 137 = .ok (.sipush 1590, 3) := by decide +kernel
theorem dL_drills_140 : decode cL_drills 140 = .ok (.iconst 0, 1) := by decide +kernel
theorem dL_drills_141 : decode cL_drills 141 = .ok (.iconst 2, 1) := by decide +kernel
theorem dL_drills_142 : decode cL_drills 142 = .ok (.bipush 20, 2) := by decide +kernel
theorem dL_drills_144 : decode cL_drills 144 = .ok (.invokestatic 121, 3) := by decide +kernel
theorem dL_drills_147 : decode cL_drills 147 = .ok (.ldc2_w 104, 3) := by decide +kernel
theorem dL_drills_150 : decode cL_drills 150 = .ok (.lcmp, 1) := by decide +kernel
theorem dL_drills_151 : decode cL_drills 151 = .ok (.ifCond .ne 362, 3) := by decide +kernel
theorem dL_drills_154 : decode cL_drills 154 = .ok (.aload_n 0, 1) := by decide +kernel
theorem dL_drills_155 : decode cL_drills 155 = .ok (.bipush 6, 2) := by decide +kernel
theorem dL_drills_157 : decode cL_drills 157 = .ok (.iconst 5, 1) := by decide +kernel
theorem dL_drills_158 : decode cL_drills 158 = .ok (.iconst 0, 1) := by decide +kernel
theorem dL_drills_159 : decode cL_drills 159 = .ok (.bipush 10, 2) := by decide +kernel
theorem dL_drills_161 : decode cL_drills 161 = .ok (.iconst 0, 1) := by decide +kernel
theorem dL_drills_162 : decode cL_drills 162 = .ok (.invokestatic 121, 3) := by decide +kernel
theorem dL_drills_165 : decode cL_drills 165 = .ok (.ldc2_w 104, 3) := by decide +kernel
theorem dL_drills_168 : decode cL_drills 168 = .ok (.lcmp, 1) := by decide +kernel
theorem dL_drills_169 : decode cL_drills 169 = .ok (.ifCond .ne 344, 3) := by decide +kernel
theorem dL_drills_172 : decode cL_drills 172 = .ok (.aload_n 0, 1) := by decide +kernel
theorem dL_drills_173 : decode cL_drills 173 = .ok (.bipush 6, 2) := by decide +kernel
theorem dL_drills_175 : decode cL_drills 175 = .ok (.sipush 500, 3) := by decide +kernel
theorem dL_drills_178 : decode cL_drills 178 = .ok (.sipush 835, 3) := by decide +kernel
theorem dL_drills_181 : decode cL_drills 181 = .ok (.bipush 10, 2) := by decide +kernel
theorem dL_drills_183 : decode cL_drills 183 = .ok (.iconst 0, 1) := by decide +kernel
theorem dL_drills_184 : decode cL_drills 184 = .ok (.invokestatic 121, 3) := by decide +kernel
theorem dL_drills_187 : decode cL_drills 187 = .ok (.ldc2_w 104, 3) := by decide +kernel
theorem dL_drills_190 : decode cL_drills 190 = .ok (.lcmp, 1) := by decide +kernel
theorem dL_drills_191 : decode cL_drills 191 = .ok (.ifCond .ne 322, 3) := by decide +kernel
theorem dL_drills_194 : decode cL_drills 194 = .ok (.aload_n 0, 1) := by decide +kernel
theorem dL_drills_195 : decode cL_drills 195 = .ok (.iconst 0, 1) := by decide +kernel
theorem dL_drills_196 : decode cL_drills 196 = .ok (.bipush 10, 2) := by decide +kernel
theorem dL_drills_198 : decode cL_drills 198 = .ok (.bipush 120, 2) := by decide +kernel
theorem dL_drills_200 : decode cL_drills 200 = .ok (.iconst 0, 1) := by decide +kernel
theorem dL_drills_201 : decode cL_drills 201 = .ok (.invokevirtual 52, 3) := by decide +kernel
theorem dL_drills_204 : decode cL_drills 204 = .ok (.ifCond .ne 309, 3) := by decide +kernel
theorem dL_drills_207 : decode cL_drills 207 = .ok (.aload_n 0, 1) := by decide +kernel
theorem dL_drills_208 : decode cL_drills 208 = .ok (.iconst 0, 1) := by decide +kernel
theorem dL_drills_209 : decode cL_drills 209 = .ok (.iconst 1, 1) := by decide +kernel
theorem dL_drills_210 : decode cL_drills 210 = .ok (.invokevirtual 63, 3) := by decide +kernel
theorem dL_drills_213 : decode cL_drills 213 = .ok (.iconst 1, 1) := by decide +kernel
theorem dL_drills_214 : decode cL_drills 214 = .ok (.if_icmp .ne 299, 3) := by decide +kernel
theorem dL_drills_217 : decode cL_drills 217 = .ok (.aload_n 0, 1) := by decide +kernel
theorem dL_drills_218 : decode cL_drills 218 = .ok (.iconst 0, 1) := by decide +kernel
theorem dL_drills_219 : decode cL_drills 219 = .ok (.invokevirtual 66, 3) := by decide +kernel
theorem dL_drills_222 : decode cL_drills 222 = .ok (.lconst 0, 1) := by decide +kernel
theorem dL_drills_223 : decode cL_drills 223 = .ok (.lcmp, 1) := by decide +kernel
theorem dL_drills_224 : decode cL_drills 224 = .ok (.ifCond .ne 289, 3) := by decide +kernel
theorem dL_drills_227 : decode cL_drills 227 = .ok (.aload_n 0, 1) := by decide +kernel
theorem dL_drills_228 : decode cL_drills 228 = .ok (.iconst 0, 1) := by decide +kernel
theorem dL_drills_229 : decode cL_drills 229 = .ok (.iconst 5, 1) := by decide +kernel
theorem dL_drills_230 : decode cL_drills 230 = .ok (.iconst 1, 1) := by decide +kernel
theorem dL_drills_231 : decode cL_drills 231 = .ok (.invokevirtual 70, 3) := by decide +kernel
theorem dL_drills_234 : decode cL_drills 234 = .ok (.ldc 138, 2) := by decide +kernel
theorem dL_drills_236 : decode cL_drills 236 = .ok (.if_icmp .ne 277, 3) := by decide +kernel
theorem dL_drills_239 : decode cL_drills 239 = .ok (.aload_n 0, 1) := by decide +kernel
theorem dL_drills_240 : decode cL_drills 240 = .ok (.iconst 0, 1) := by decide +kernel
theorem dL_drills_241 : decode cL_drills 241 = .ok (.bipush 10, 2) := by decide +kernel
theorem dL_drills_243 : decode cL_drills 243 = .ok (.iconst 2, 1) := by decide +kernel
theorem dL_drills_244 : decode cL_drills 244 = .ok (.invokevirtual 70, 3) := by decide +kernel
theorem dL_drills_247 : decode cL_drills 247 = .ok (.ldc 139, 2) := by decide +kernel
theorem dL_drills_249 : decode cL_drills 249 = .ok (.if_icmp .ne 264, 3) := by decide +kernel
theorem dL_drills_252 : decode cL_drills 252 = .ok (.aload_n 0, 1) := by decide +kernel
theorem dL_drills_253 : decode cL_drills 253 = .ok (.iconst 0, 1) := by decide +kernel
theorem dL_drills_254 : decode cL_drills 254 = .ok (.iconst (-1), 1) := by decide +kernel
theorem dL_drills_255 : decode cL_drills 255 = .ok (.iconst (-1), 1) := by decide +kernel
theorem dL_drills_256 : decode cL_drills 256 = .ok (.iconst (-1), 1) := by decide +kernel
theorem dL_drills_257 : decode cL_drills 257 = .ok (.iconst (-1), 1) := by decide +kernel
theorem dL_drills_258 : decode cL_drills 258 = .ok (.invokestatic 140, 3) := by decide +kernel
theorem dL_drills_261 : decode cL_drills 261 = .ok (.ifCond .eq 252, 3) := by decide +kernel
theorem dL_drills_264 : decode cL_drills 264 = .ok (.aload_n 0, 1) := by decide +kernel
theorem dL_drills_265 : decode cL_drills 265 = .ok (.iconst 1, 1) := by decide +kernel
theorem dL_drills_266 : decode cL_drills 266 = .ok (.bipush 10, 2) := by decide +kernel
theorem dL_drills_268 : decode cL_drills 268 = .ok (.bipush 120, 2) := by decide +kernel
theorem dL_drills_270 : decode cL_drills 270 = .ok (.iconst 1, 1) := by decide +kernel
theorem dL_drills_271 : decode cL_drills 271 = .ok (.invokevirtual 52, 3) := by decide +kernel
theorem dL_drills_274 : decode cL_drills 274 = .ok (.iconst 1, 1) := by decide +kernel
theorem dL_drills_275 : decode cL_drills 275 = .ok (.if_icmp .ne 238, 3) := by decide +kernel
theorem dL_drills_278 : decode cL_drills 278 = .ok (.aload_n 0, 1) := by decide +kernel
theorem dL_drills_279 : decode cL_drills 279 = .ok (.iconst 1, 1) := by decide +kernel
theorem dL_drills_280 : decode cL_drills 280 = .ok (.invokevirtual 66, 3) := by decide +kernel
theorem dL_drills_283 : decode cL_drills 283 = .ok (.lconst 0, 1) := by decide +kernel
theorem dL_drills_284 : decode cL_drills 284 = .ok (.lcmp, 1) := by decide +kernel
theorem dL_drills_285 : decode cL_drills 285 = .ok (.ifCond .ne 228, 3) := by decide +kernel
theorem dL_drills_288 : decode cL_drills 288 = .ok (.aload_n 0, 1) := by decide +kernel
theorem dL_drills_289 : decode cL_drills 289 = .ok (.iconst 1, 1) := by decide +kernel
theorem dL_drills_290 : decode cL_drills 290 = .ok (.iconst 0, 1) := by decide +kernel
theorem dL_drills_291 : decode cL_drills 291 = .ok (.invokevirtual 63, 3) := by decide +kernel
theorem dL_drills_294 : decode cL_drills 294 = .ok (.iconst 2, 1) := by decide +kernel
theorem dL_drills_295 : decode cL_drills 295 = .ok (.if_icmp .ne 218, 3) := by decide +kernel
theorem dL_drills_298 : decode cL_drills 298 = .ok (.aload_n 0, 1) := by decide +kernel
theorem dL_drills_299 : decode cL_drills 299 = .ok (.iconst 1, 1) := by decide +kernel
theorem dL_drills_300 : decode cL_drills 300 = .ok (.iconst 1, 1) := by decide +kernel
theorem dL_drills_301 : decode cL_drills 301 = .ok (.invokevirtual 63, 3) := by decide +kernel
theorem dL_drills_304 : decode cL_drills 304 = .ok (.iconst 1, 1) := by decide +kernel
theorem dL_drills_305 : decode cL_drills 305 = .ok (.if_icmp .ne 208, 3) := by decide +kernel
theorem dL_drills_308 : decode cL_drills 308 = .ok (.aload_n 0, 1) := by decide +kernel
theorem dL_drills_309 : decode cL_drills 309 = .ok (.iconst 1, 1) := by decide +kernel
theorem dL_drills_310 : decode cL_drills 310 = .ok (.iconst 2, 1) := by decide +kernel
theorem dL_drills_311 : decode cL_drills 311 = .ok (.invokevirtual 63, 3) := by decide +kernel
theorem dL_drills_314 : decode cL_drills 314 = .ok (.ifCond .ne 199, 3) := by decide +kernel
theorem dL_drills_317 : decode cL_drills 317 = .ok (.aload_n 0, 1) := by decide +kernel
theorem dL_drills_318 : decode cL_drills 318 = .ok (.iconst 1, 1) := by decide +kernel
theorem dL_drills_319 : decode cL_drills 319 = .ok (.iconst (-1), 1) := by decide +kernel
theorem dL_drills_320 : decode cL_drills 320 = .ok (.iconst (-1), 1) := by decide +kernel
theorem dL_drills_321 : decode cL_drills 321 = .ok (.iconst (-1), 1) := by decide +kernel
theorem dL_drills_322 : decode cL_drills 322 = .ok (.iconst (-1), 1) := by decide +kernel
theorem dL_drills_323 : decode cL_drills 323 = .ok (.invokestatic 140, 3) := by decide +kernel
theorem dL_drills_326 : decode cL_drills 326 = .ok (.ifCond .eq 187, 3) := by decide +kernel
theorem dL_drills_329 : decode cL_drills 329 = .ok (.aload_n 0, 1) := by decide +kernel
theorem dL_drills_330 : decode cL_drills 330 = .ok (.iconst 1, 1) := by decide +kernel
theorem dL_drills_331 : decode cL_drills 331 = .ok (.bipush 10, 2) := by decide +kernel
theorem dL_drills_333 : decode cL_drills 333 = .ok (.bipush 120, 2) := by decide +kernel
theorem dL_drills_335 : decode cL_drills 335 = .ok (.iconst 0, 1) := by decide +kernel
theorem dL_drills_336 : decode cL_drills 336 = .ok (.invokevirtual 52, 3) := by decide +kernel
theorem dL_drills_339 : decode cL_drills 339 = .ok (.iconst 2, 1) := by decide +kernel
theorem dL_drills_340 : decode cL_drills 340 = .ok (.if_icmp .ne 173, 3) := by decide +kernel
theorem dL_drills_343 : decode cL_drills 343 = .ok (.aload_n 0, 1) := by decide +kernel
theorem dL_drills_344 : decode cL_drills 344 = .ok (.iconst 2, 1) := by decide +kernel
theorem dL_drills_345 : decode cL_drills 345 = .ok (.invokevirtual 66, 3) := by decide +kernel
theorem dL_drills_348 : decode cL_drills 348 = .ok (.ldc2_w 143, 3) := by decide +kernel
theorem dL_drills_351 : decode cL_drills 351 = .ok (.lcmp, 1) := by decide +kernel
theorem dL_drills_352 : decode cL_drills 352 = .ok (.ifCond .ne 161, 3) := by decide +kernel
theorem dL_drills_355 : decode cL_drills 355 = .ok (.aload_n 0, 1) := by decide +kernel
theorem dL_drills_356 : decode cL_drills 356 = .ok (.iconst 2, 1) := by decide +kernel
theorem dL_drills_357 : decode cL_drills 357 = .ok (.iconst 3, 1) := by decide +kernel
theorem dL_drills_358 : decode cL_drills 358 = .ok (.iconst 2, 1) := by decide +kernel
theorem dL_drills_359 : decode cL_drills 359 = .ok (.invokevirtual 70, 3) := by decide +kernel
theorem dL_drills_362 : decode cL_drills 362 = .ok (.ldc 145, 2) := by decide +kernel
theorem dL_drills_364 : decode cL_drills 364 = .ok (.if_icmp .ne 149, 3) := by decide +kernel
theorem dL_drills_367 : decode cL_drills 367 = .ok (.aload_n 0, 1) := by decide +kernel
theorem dL_drills_368 : decode cL_drills 368 = .ok (.iconst 2, 1) := by decide +kernel
theorem dL_drills_369 : decode cL_drills 369 = .ok (.iconst 0, 1) := by decide +kernel
theorem dL_drills_370 : decode cL_drills 370 = .ok (.iconst 2, 1) := by decide +kernel
theorem dL_drills_371 : decode cL_drills 371 = .ok (.invokevirtual 70, 3) := by decide +kernel
theorem dL_drills_374 : decode cL_drills 374 = .ok (.ldc 139, 2) := by decide +kernel
theorem dL_drills_376 : decode cL_drills 376 = .ok (.if_icmp .ne 137, 3) := by decide +kernel
theorem dL_drills_379 : decode cL_drills 379 = .ok (.aload_n 0, 1) := by decide +kernel
theorem dL_drills_380 : decode cL_drills 380 = .ok (.iconst 2, 1) := by decide +kernel
theorem dL_drills_381 : decode cL_drills 381 = .ok (.bipush 10, 2) := by decide +kernel
theorem dL_drills_383 : decode cL_drills 383 = .ok (.iconst 2, 1) := by decide +kernel
theorem dL_drills_384 : decode cL_drills 384 = .ok (.invokevirtual 70, 3) := by decide +kernel
theorem dL_drills_387 : decode cL_drills 387 = .ok (.ifCond .ne 126, 3) := by decide +kernel
theorem dL_drills_390 : decode cL_drills 390 = .ok (.aload_n 0, 1) := by decide +kernel
theorem dL_drills_391 : decode cL_drills 391 = .ok (.iconst 2, 1) := by decide +kernel
theorem dL_drills_392 : decode cL_drills 392 = .ok (.iconst 5, 1) := by decide +kernel
theorem dL_drills_393 : decode cL_drills 393 = .ok (.iconst 1, 1) := by decide +kernel
theorem dL_drills_394 : decode cL_drills 394 = .ok (.iconst 0, 1) := by decide +kernel
theorem dL_drills_395 : decode cL_drills 395 = .ok (.iconst 1, 1) := by decide +kernel
theorem dL_drills_396 : decode cL_drills 396 = .ok (.invokestatic 140, 3) := by decide +kernel
theorem dL_drills_399 : decode cL_drills 399 = .ok (.ifCond .eq 114, 3) := by decide +kernel
theorem dL_drills_402 : decode cL_drills 402 = .ok (.aload_n 0, 1) := by decide +kernel
theorem dL_drills_403 : decode cL_drills 403 = .ok (.iconst 1, 1) := by decide +kernel
theorem dL_drills_404 : decode cL_drills 404 = .ok (.iconst 1, 1) := by decide +kernel
theorem dL_drills_405 : decode cL_drills 405 = .ok (.invokevirtual 34, 3) := by decide +kernel
theorem dL_drills_408 : decode cL_drills 408 = .ok (.ifCond .ne 105, 3) := by decide +kernel
theorem dL_drills_411 : decode cL_drills 411 = .ok (.aload_n 0, 1) := by decide +kernel
theorem dL_drills_412 : decode cL_drills 412 = .ok (.iconst 2, 1) := by decide +kernel
theorem dL_drills_413 : decode cL_drills 413 = .ok (.iconst 5, 1) := by decide +kernel
theorem dL_drills_414 : decode cL_drills 414 = .ok (.iconst 1, 1) := by decide +kernel
theorem dL_drills_415 : decode cL_drills 415 = .ok (.iconst 0, 1) := by decide +kernel
theorem dL_drills_416 : decode cL_drills 416 = .ok (.iconst 2, 1) := by decide +kernel
theorem dL_drills_417 : decode cL_drills 417 = .ok (.invokestatic 140, 3) := by decide +kernel
theorem dL_drills_420 : decode cL_drills 420 = .ok (.ifCond .eq 93, 3) := by decide +kernel
theorem dL_drills_423 : decode cL_drills 423 = .ok (.aload_n 0, 1) := by decide +kernel
theorem dL_drills_424 : decode cL_drills 424 = .ok (.iconst 3, 1) := by decide +kernel
theorem dL_drills_425 : decode cL_drills 425 = .ok (.iconst 0, 1) := by decide +kernel
theorem dL_drills_426 : decode cL_drills 426 = .ok (.iconst 1, 1) := by decide +kernel
theorem dL_drills_427 : decode cL_drills 427 = .ok (.iconst 0, 1) := by decide +kernel
theorem dL_drills_428 : decode cL_drills 428 = .ok (.iconst 0, 1) := by decide +kernel
theorem dL_drills_429 : decode cL_drills 429 = .ok (.invokestatic 121, 3) := by decide +kernel
theorem dL_drills_432 : decode cL_drills 432 = .ok (.lconst 1, 1) := by decide +kernel
theorem dL_drills_433 : decode cL_drills 433 = .ok (.lcmp, 1) := by decide +kernel
theorem dL_drills_434 : decode cL_drills 434 = .ok (.ifCond .ne 79, 3) := by decide +kernel
theorem dL_drills_437 : decode cL_drills 437 = .ok (.aload_n 0, 1) := by decide +kernel
theorem dL_drills_438 : decode cL_drills 438 = .ok (.iconst 1, 1) := by decide +kernel
theorem dL_drills_439 : decode cL_drills 439 = .ok (.iconst 1, 1) := by decide +kernel
theorem dL_drills_440 : decode cL_drills 440 = .ok (.invokevirtual 34, 3) := by decide +kernel
theorem dL_drills_443 : decode cL_drills 443 = .ok (.ifCond .eq 70, 3) := by decide +kernel
theorem dL_drills_446 : decode cL_drills 446 = .ok (.aload_n 0, 1) := by decide +kernel
theorem dL_drills_447 : decode cL_drills 447 = .ok (.iconst 2, 1) := by decide +kernel
theorem dL_drills_448 : decode cL_drills 448 = .ok (.iconst 5, 1) := by decide +kernel
theorem dL_drills_449 : decode cL_drills 449 = .ok (.iconst 1, 1) := by decide +kernel
theorem dL_drills_450 : decode cL_drills 450 = .ok (.iconst 0, 1) := by decide +kernel
theorem dL_drills_451 : decode cL_drills 451 = .ok (.iconst 1, 1) := by decide +kernel
theorem dL_drills_452 : decode cL_drills 452 = .ok (.invokestatic 140, 3) := by decide +kernel
theorem dL_drills_455 : decode cL_drills 455 = .ok (.ifCond .eq 58, 3) := by decide +kernel
theorem dL_drills_458 : decode cL_drills 458 = .ok (.aload_n 0, 1) := by decide +kernel
theorem dL_drills_459 : decode cL_drills 459 = .ok (.iconst 3, 1) := by decide +kernel
theorem dL_drills_460 : decode cL_drills 460 = .ok (.iconst 0, 1) := by decide +kernel
theorem dL_drills_461 : decode cL_drills 461 = .ok (.iconst 1, 1) := by decide +kernel
theorem dL_drills_462 : decode cL_drills 462 = .ok (.iconst 1, 1) := by decide +kernel
theorem dL_drills_463 : decode cL_drills 463 = .ok (.iconst 0, 1) := by decide +kernel
theorem dL_drills_464 : decode cL_drills 464 = .ok (.invokestatic 121, 3) := by decide +kernel
theorem dL_drills_467 : decode cL_drills 467 = .ok (.lconst 1, 1) := by decide +kernel
theorem dL_drills_468 : decode cL_drills 468 = .ok (.lcmp, 1) := by decide +kernel
theorem dL_drills_469 : decode cL_drills 469 = .ok (.ifCond .ne 44, 3) := by decide +kernel
theorem dL_drills_472 : decode cL_drills 472 = .ok (.aload_n 0, 1) := by decide +kernel
theorem dL_drills_473 : decode cL_drills 473 = .ok (.iconst 1, 1) := by decide +kernel
theorem dL_drills_474 : decode cL_drills 474 = .ok (.iconst 1, 1) := by decide +kernel
theorem dL_drills_475 : decode cL_drills 475 = .ok (.invokevirtual 34, 3) := by decide +kernel
theorem dL_drills_478 : decode cL_drills 478 = .ok (.ifCond .ne 35, 3) := by decide +kernel
theorem dL_drills_481 : decode cL_drills 481 = .ok (.aload_n 0, 1) := by decide +kernel
theorem dL_drills_482 : decode cL_drills 482 = .ok (.iconst 3, 1) := by decide +kernel
theorem dL_drills_483 : decode cL_drills 483 = .ok (.iconst 0, 1) := by decide +kernel
theorem dL_drills_484 : decode cL_drills 484 = .ok (.iconst (-1), 1) := by decide +kernel
theorem dL_drills_485 : decode cL_drills 485 = .ok (.iconst 0, 1) := by decide +kernel
theorem dL_drills_486 : decode cL_drills 486 = .ok (.iconst 0, 1) := by decide +kernel
theorem dL_drills_487 : decode cL_drills 487 = .ok (.invokestatic 121, 3) := by decide +kernel
theorem dL_drills_490 : decode cL_drills 490 = .ok (.lconst 1, 1) := by decide +kernel
theorem dL_drills_491 : decode cL_drills 491 = .ok (.lcmp, 1) := by decide +kernel
theorem dL_drills_492 : decode cL_drills 492 = .ok (.ifCond .ne 21, 3) := by decide +kernel
theorem dL_drills_495 : decode cL_drills 495 = .ok (.aload_n 0, 1) := by decide +kernel
theorem dL_drills_496 : decode cL_drills 496 = .ok (.iconst 1, 1) := by decide +kernel
theorem dL_drills_497 : decode cL_drills 497 = .ok (.iconst 1, 1) := by decide +kernel
theorem dL_drills_498 : decode cL_drills 498 = .ok (.invokevirtual 34, 3) := by decide +kernel
theorem dL_drills_501 : decode cL_drills 501 = .ok (.ifCond .ne 12, 3) := by decide +kernel
theorem dL_drills_504 : decode cL_drills 504 = .ok (.aload_n 0, 1) := by decide +kernel
theorem dL_drills_505 : decode cL_drills 505 = .ok (.iconst 1, 1) := by decide +kernel
theorem dL_drills_506 : decode cL_drills 506 = .ok (.iconst 0, 1) := by decide +kernel
theorem dL_drills_507 : decode cL_drills 507 = .ok (.invokevirtual 34, 3) := by decide +kernel
theorem dL_drills_510 : decode cL_drills 510 = .ok (.ifCond .ne 5, 3) := by decide +kernel
theorem dL_drills_513 : decode cL_drills 513 = .ok (.iconst 0, 1) := by decide +kernel
theorem dL_drills_514 : decode cL_drills 514 = .ok (.ireturn, 1) := by decide +kernel
theorem dL_drills_515 : decode cL_drills 515 = .ok (.aload_n 0, 1) := by decide +kernel
theorem dL_drills_516 : decode cL_drills 516 = .ok (.iconst 0, 1) := by decide +kernel
theorem dL_drills_517 : decode cL_drills 517 = .ok (.bipush 10, 2) := by decide +kernel
theorem dL_drills_519 : decode cL_drills 519 = .ok (.sipush 240, 3) := by decide +kernel
theorem dL_drills_522 : decode cL_drills 522 = .ok (.iconst 0, 1) := by decide +kernel
theorem dL_drills_523 : decode cL_drills 523 = .ok (.invokevirtual 52, 3) := by decide +kernel
theorem dL_drills_526 : decode cL_drills 526 = .ok (.iconst 3, 1) := by decide +kernel
theorem dL_drills_527 : decode cL_drills 527 = .ok (.if_icmp .ne 89, 3) := by decide +kernel
theorem dL_drills_530 : decode cL_drills 530 = .ok (.aload_n 0, 1) := by decide +kernel
theorem dL_drills_531 : decode cL_drills 531 = .ok (.iconst 3, 1) := by decide +kernel
theorem dL_drills_532 : decode cL_drills 532 = .ok (.iconst 1, 1) := by decide +kernel
theorem dL_drills_533 : decode cL_drills 533 = .ok (.iconst 0, 1) := by decide +kernel
theorem dL_drills_534 : decode cL_drills 534 = .ok (.iconst 0, 1) := by decide +kernel
theorem dL_drills_535 : decode cL_drills 535 = .ok (.iconst (-1), 1) := by decide +kernel
theorem dL_drills_536 : decode cL_drills 536 = .ok (.invokestatic 140, 3) := by decide +kernel
theorem dL_drills_539 : decode cL_drills 539 = .ok (.ifCond .eq 77, 3) := by decide +kernel
theorem dL_drills_542 : decode cL_drills 542 = .ok (.aload_n 0, 1) := by decide +kernel
theorem dL_drills_543 : decode cL_drills 543 = .ok (.iconst 0, 1) := by decide +kernel
theorem dL_drills_544 : decode cL_drills 544 = .ok (.bipush 40, 2) := by decide +kernel
theorem dL_drills_546 : decode cL_drills 546 = .ok (.invokevirtual 30, 3) := by decide +kernel
theorem dL_drills_549 : decode cL_drills 549 = .ok (.bipush 14, 2) := by decide +kernel
theorem dL_drills_551 : decode cL_drills 551 = .ok (.if_icmp .ne 65, 3) := by decide +kernel
theorem dL_drills_554 : decode cL_drills 554 = .ok (.aload_n 0, 1) := by decide +kernel
theorem dL_drills_555 : decode cL_drills 555 = .ok (.iconst 3, 1) := by decide +kernel
theorem dL_drills_556 : decode cL_drills 556 = .ok (.iconst 1, 1) := by decide +kernel
theorem dL_drills_557 : decode cL_drills 557 = .ok (.iconst 0, 1) := by decide +kernel
theorem dL_drills_558 : decode cL_drills 558 = .ok (.iconst 2, 1) := by decide +kernel
theorem dL_drills_559 : decode cL_drills 559 = .ok (.iconst (-1), 1) := by decide +kernel
theorem dL_drills_560 : decode cL_drills 560 = .ok (.invokestatic 140, 3) := by decide +kernel
theorem dL_drills_563 : decode cL_drills 563 = .ok (.ifCond .eq 53, 3) := by decide +kernel
theorem dL_drills_566 : decode cL_drills 566 = .ok (.aload_n 0, 1) := by decide +kernel
theorem dL_drills_567 : decode cL_drills 567 = .ok (.bipush 8, 2) := by decide +kernel
theorem dL_drills_569 : decode cL_drills 569 = .ok (.iconst 3, 1) := by decide +kernel
theorem dL_drills_570 : decode cL_drills 570 = .ok (.iconst 0, 1) := by decide +kernel
theorem dL_drills_571 : decode cL_drills 571 = .ok (.bipush 20, 2) := by decide +kernel
theorem dL_drills_573 : decode cL_drills 573 = .ok (.sipush 240, 3) := by decide +kernel
theorem dL_drills_576 : decode cL_drills 576 = .ok (.invokestatic 121, 3) := by decide +kernel
theorem dL_drills_579 : decode cL_drills 579 = .ok (.lconst 1, 1) := by decide +kernel
theorem dL_drills_580 : decode cL_drills 580 = .ok (.lcmp, 1) := by decide +kernel
theorem dL_drills_581 : decode cL_drills 581 = .ok (.ifCond .ne 35, 3) := by decide +kernel
theorem dL_drills_584 : decode cL_drills 584 = .ok (.aload_n 0, 1) := by decide +kernel
theorem dL_drills_585 : decode cL_drills 585 = .ok (.iconst 3, 1) := by decide +kernel
theorem dL_drills_586 : decode cL_drills 586 = .ok (.iconst 0, 1) := by decide +kernel
theorem dL_drills_587 : decode cL_drills 587 = .ok (.invokevirtual 63, 3) := by decide +kernel
theorem dL_drills_590 : decode cL_drills 590 = .ok (.iconst 2, 1) := by decide +kernel
theorem dL_drills_591 : decode cL_drills 591 = .ok (.if_icmp .ne 25, 3) := by decide +kernel
theorem dL_drills_594 : decode cL_drills 594 = .ok (.aload_n 0, 1) := by decide +kernel
theorem dL_drills_595 : decode cL_drills 595 = .ok (.iconst 3, 1) := by decide +kernel
theorem dL_drills_596 : decode cL_drills 596 = .ok (.iconst (-1), 1) := by decide +kernel
theorem dL_drills_597 : decode cL_drills 597 = .ok (.iconst (-1), 1) := by decide +kernel
theorem dL_drills_598 : decode cL_drills 598 = .ok (.iconst (-1), 1) := by decide +kernel
theorem dL_drills_599 : decode cL_drills 599 = .ok (.iconst (-1), 1) := by decide +kernel
theorem dL_drills_600 : decode cL_drills 600 = .ok (.invokestatic 140, 3) := by decide +kernel
theorem dL_drills_603 : decode cL_drills 603 = .ok (.ifCond .eq 13, 3) := by decide +kernel
theorem dL_drills_606 : decode cL_drills 606 = .ok (.aload_n 0, 1) := by decide +kernel
theorem dL_drills_607 : decode cL_drills 607 = .ok (.iconst 3, 1) := by decide +kernel
theorem dL_drills_608 : decode cL_drills 608 = .ok (.invokevirtual 66, 3) := by decide +kernel
theorem dL_drills_611 : decode cL_drills 611 = .ok (.lconst 0, 1) := by decide +kernel
theorem dL_drills_612 : decode cL_drills 612 = .ok (.lcmp, 1) := by decide +kernel
theorem dL_drills_613 : decode cL_drills 613 = .ok (.ifCond .eq 5, 3) := by decide +kernel
theorem dL_drills_616 : decode cL_drills 616 = .ok (.iconst 0, 1) := by decide +kernel
theorem dL_drills_617 : decode cL_drills 617 = .ok (.ireturn, 1) := by decide +kernel
theorem dL_drills_618 : decode cL_drills 618 = .ok (.aload_n 0, 1) := by decide +kernel
theorem dL_drills_619 : decode cL_drills 619 = .ok (.bipush 8, 2) := by decide +kernel
theorem dL_drills_621 : decode cL_drills 621 = .ok (.iconst 0, 1) := by decide +kernel
theorem dL_drills_622 : decode cL_drills 622 = .ok (.iconst 3, 1) := by decide +kernel
theorem dL_drills_623 : decode cL_drills 623 = .ok (.iconst 4, 1) := by decide +kernel
theorem dL_drills_624 : decode cL_drills 624 = .ok (.bipush 60, 2) := by decide +kernel
theorem dL_drills_626 : decode cL_drills 626 = .ok (.invokestatic 121, 3) := by decide +kernel
theorem dL_drills_629 : decode cL_drills 629 = .ok (.lconst 1, 1) := by decide +kernel
theorem dL_drills_630 : decode cL_drills 630 = .ok (.lcmp, 1) := by decide +kernel
theorem dL_drills_631 : decode cL_drills 631 = .ok (.ifCond .ne 207, 3) := by decide +kernel
theorem dL_drills_634 : decode cL_drills 634 = .ok (.aload_n 0, 1) := by decide +kernel
theorem dL_drills_635 : decode cL_drills 635 = .ok (.iconst 0, 1) := by decide +kernel
theorem dL_drills_636 : decode cL_drills 636 = .ok (.iconst 0, 1) := by decide +kernel
theorem dL_drills_637 : decode cL_drills 637 = .ok (.iconst 2, 1) := by decide +kernel
theorem dL_drills_638 : decode cL_drills 638 = .ok (.invokevirtual 70, 3) := by decide +kernel
theorem dL_drills_641 : decode cL_drills 641 = .ok (.sipush 20030, 3) := by decide +kernel
theorem dL_drills_644 : decode cL_drills 644 = .ok (.if_icmp .ne 194, 3) := by decide +kernel
theorem dL_drills_647 : decode cL_drills 647 = .ok (.aload_n 0, 1) := by decide +kernel
theorem dL_drills_648 : decode cL_drills 648 = .ok (.iconst 1, 1) := by decide +kernel
theorem dL_drills_649 : decode cL_drills 649 = .ok (.iconst 0, 1) := by decide +kernel
theorem dL_drills_650 : decode cL_drills 650 = .ok (.invokevirtual 63, 3) := by decide +kernel
theorem dL_drills_653 : decode cL_drills 653 = .ok (.iconst 2, 1) := by decide +kernel
theorem dL_drills_654 : decode cL_drills 654 = .ok (.if_icmp .ne 184, 3) := by decide +kernel
theorem dL_drills_657 : decode cL_drills 657 = .ok (.aload_n 0, 1) := by decide +kernel
theorem dL_drills_658 : decode cL_drills 658 = .ok (.iconst 1, 1) := by decide +kernel
theorem dL_drills_659 : decode cL_drills 659 = .ok (.invokevirtual 66, 3) := by decide +kernel
theorem dL_drills_662 : decode cL_drills 662 = .ok (.ldc2_w 146, 3) := by decide +kernel
theorem dL_drills_665 : decode cL_drills 665 = .ok (.lcmp, 1) := by decide +kernel
theorem dL_drills_666 : decode cL_drills 666 = .ok (.ifCond .ne 172, 3) := by decide +kernel
theorem dL_drills_669 : decode cL_drills 669 = .ok (.aload_n 0, 1) := by decide +kernel
theorem dL_drills_670 : decode cL_drills 670 = .ok (.iconst 1, 1) := by decide +kernel
theorem dL_drills_671 : decode cL_drills 671 = .ok (.iconst 1, 1) := by decide +kernel
theorem dL_drills_672 : decode cL_drills 672 = .ok (.invokevirtual 63, 3) := by decide +kernel
theorem dL_drills_675 : decode cL_drills 675 = .ok (.ifCond .ne 163, 3) := by decide +kernel
theorem dL_drills_678 : decode cL_drills 678 = .ok (.aload_n 0, 1) := by decide +kernel
theorem dL_drills_679 : decode cL_drills 679 = .ok (.iconst 1, 1) := by decide +kernel
theorem dL_drills_680 : decode cL_drills 680 = .ok (.iconst 2, 1) := by decide +kernel
theorem dL_drills_681 : decode cL_drills 681 = .ok (.invokevirtual 63, 3) := by decide +kernel
theorem dL_drills_684 : decode cL_drills 684 = .ok (.iconst 1, 1) := by decide +kernel
theorem dL_drills_685 : decode cL_drills 685 = .ok (.if_icmp .ne 153, 3) := by decide +kernel
theorem dL_drills_688 : decode cL_drills 688 = .ok (.aload_n 0, 1) := by decide +kernel
theorem dL_drills_689 : decode cL_drills 689 = .ok (.invokevirtual 115, 3) := by decide +kernel
theorem dL_drills_692 : decode cL_drills 692 = .ok (.sipush 190, 3) := by decide +kernel
theorem dL_drills_695 : decode cL_drills 695 = .ok (.if_icmp .ne 143, 3) := by decide +kernel
theorem dL_drills_698 : decode cL_drills 698 = .ok (.aload_n 0, 1) := by decide +kernel
theorem dL_drills_699 : decode cL_drills 699 = .ok (.iconst 4, 1) := by decide +kernel
theorem dL_drills_700 : decode cL_drills 700 = .ok (.bipush 64, 2) := by decide +kernel
theorem dL_drills_702 : decode cL_drills 702 = .ok (.bipush 60, 2) := by decide +kernel
theorem dL_drills_704 : decode cL_drills 704 = .ok (.iconst 0, 1) := by decide +kernel
theorem dL_drills_705 : decode cL_drills 705 = .ok (.invokevirtual 52, 3) := by decide +kernel
theorem dL_drills_708 : decode cL_drills 708 = .ok (.iconst 4, 1) := by decide +kernel
theorem dL_drills_709 : decode cL_drills 709 = .ok (.if_icmp .ne 129, 3) := by decide +kernel
theorem dL_drills_712 : decode cL_drills 712 = .ok (.aload_n 0, 1) := by decide +kernel
theorem dL_drills_713 : decode cL_drills 713 = .ok (.iconst 4, 1) := by decide +kernel
theorem dL_drills_714 : decode cL_drills 714 = .ok (.bipush 64, 2) := by decide +kernel
theorem dL_drills_716 : decode cL_drills 716 = .ok (.iconst 1, 1) := by decide +kernel
theorem dL_drills_717 : decode cL_drills 717 = .ok (.invokevirtual 70, 3) := by decide +kernel
theorem dL_drills_720 : decode cL_drills 720 = .ok (.ldc 148, 2) := by decide +kernel
theorem dL_drills_722 : decode cL_drills 722 = .ok (.if_icmp .ne 116, 3) := by decide +kernel
theorem dL_drills_725 : decode cL_drills 725 = .ok (.aload_n 0, 1) := by decide +kernel
theorem dL_drills_726 : decode cL_drills 726 = .ok (.iconst 4, 1) := by decide +kernel
theorem dL_drills_727 : decode cL_drills 727 = .ok (.bipush 64, 2) := by decide +kernel
theorem dL_drills_729 : decode cL_drills 729 = .ok (.iconst 2, 1) := by decide +kernel
theorem dL_drills_730 : decode cL_drills 730 = .ok (.invokevirtual 70, 3) := by decide +kernel
theorem dL_drills_733 : decode cL_drills 733 = .ok (.ldc 149, 2) := by decide +kernel
theorem dL_drills_735 : decode cL_drills 735 = .ok (.if_icmp .ne 103, 3) := by decide +kernel
theorem dL_drills_738 : decode cL_drills 738 = .ok (.aload_n 0, 1) := by decide +kernel
theorem dL_drills_739 : decode cL_drills 739 = .ok (.iconst 2, 1) := by decide +kernel
theorem dL_drills_740 : decode cL_drills 740 = .ok (.bipush 64, 2) := by decide +kernel
theorem dL_drills_742 : decode cL_drills 742 = .ok (.bipush 60, 2) := by decide +kernel
theorem dL_drills_744 : decode cL_drills 744 = .ok (.iconst 1, 1) := by decide +kernel
theorem dL_drills_745 : decode cL_drills 745 = .ok (.invokevirtual 52, 3) := by decide +kernel
theorem dL_drills_748 : decode cL_drills 748 = .ok (.iconst 5, 1) := by decide +kernel
theorem dL_drills_749 : decode cL_drills 749 = .ok (.if_icmp .ne 89, 3) := by decide +kernel
theorem dL_drills_752 : decode cL_drills 752 = .ok (.aload_n 0, 1) := by decide +kernel
theorem dL_drills_753 : decode cL_drills 753 = .ok (.iconst 5, 1) := by decide +kernel
theorem dL_drills_754 : decode cL_drills 754 = .ok (.iconst 0, 1) := by decide +kernel
theorem dL_drills_755 : decode cL_drills 755 = .ok (.invokevirtual 63, 3) := by decide +kernel
theorem dL_drills_758 : decode cL_drills 758 = .ok (.iconst 1, 1) := by decide +kernel
theorem dL_drills_759 : decode cL_drills 759 = .ok (.if_icmp .ne 79, 3) := by decide +kernel
theorem dL_drills_762 : decode cL_drills 762 = .ok (.aload_n 0, 1) := by decide +kernel
theorem dL_drills_763 : decode cL_drills 763 = .ok (.iconst 5, 1) := by decide +kernel
theorem dL_drills_764 : decode cL_drills 764 = .ok (.iconst 1, 1) := by decide +kernel
theorem dL_drills_765 : decode cL_drills 765 = .ok (.invokevirtual 63, 3) := by decide +kernel
theorem dL_drills_768 : decode cL_drills 768 = .ok (.iconst 2, 1) := by decide +kernel
theorem dL_drills_769 : decode cL_drills 769 = .ok (.if_icmp .ne 69, 3) := by decide +kernel
theorem dL_drills_772 : decode cL_drills 772 = .ok (.aload_n 0, 1) := by decide +kernel
theorem dL_drills_773 : decode cL_drills 773 = .ok (.iconst 5, 1) := by decide +kernel
theorem dL_drills_774 : decode cL_drills 774 = .ok (.bipush 64, 2) := by decide +kernel
theorem dL_drills_776 : decode cL_drills 776 = .ok (.iconst 0, 1) := by decide +kernel
theorem dL_drills_777 : decode cL_drills 777 = .ok (.invokevirtual 70, 3) := by decide +kernel
theorem dL_drills_780 : decode cL_drills 780 = .ok (.ldc 150, 2) := by decide +kernel
theorem dL_drills_782 : decode cL_drills 782 = .ok (.if_icmp .ne 56, 3) := by decide +kernel
theorem dL_drills_785 : decode cL_drills 785 = .ok (.aload_n 0, 1) := by decide +kernel
theorem dL_drills_786 : decode cL_drills 786 = .ok (.iconst 5, 1) := by decide +kernel
theorem dL_drills_787 : decode cL_drills 787 = .ok (.bipush 64, 2) := by decide +kernel
theorem dL_drills_789 : decode cL_drills 789 = .ok (.iconst 1, 1) := by decide +kernel
theorem dL_drills_790 : decode cL_drills 790 = .ok (.invokevirtual 70, 3) := by decide +kernel
theorem dL_drills_793 : decode cL_drills 793 = .ok (.ldc 150, 2) := by decide +kernel
theorem dL_drills_795 : decode cL_drills 795 = .ok (.if_icmp .ne 43, 3) := by decide +kernel
theorem dL_drills_798 : decode cL_drills 798 = .ok (.aload_n 0, 1) := by decide +kernel
theorem dL_drills_799 : decode cL_drills 799 = .ok (.iconst 5, 1) := by decide +kernel
theorem dL_drills_800 : decode cL_drills 800 = .ok (.bipush 64, 2) := by decide +kernel
theorem dL_drills_802 : decode cL_drills 802 = .ok (.iconst 2, 1) := by decide +kernel
theorem dL_drills_803 : decode cL_drills 803 = .ok (.invokevirtual 70, 3) := by decide +kernel
theorem dL_drills_806 : decode cL_drills 806 = .ok (.ldc 151, 2) := by decide +kernel
theorem dL_drills_808 : decode cL_drills 808 = .ok (.if_icmp .ne 30, 3) := by decide +kernel
theorem dL_drills_811 : decode cL_drills 811 = .ok (.aload_n 0, 1) := by decide +kernel
theorem dL_drills_812 : decode cL_drills 812 = .ok (.invokevirtual 59, 3) := by decide +kernel
theorem dL_drills_815 : decode cL_drills 815 = .ok (.iconst 5, 1) := by decide +kernel
theorem dL_drills_816 : decode cL_drills 816 = .ok (.if_icmp .ne 22, 3) := by decide +kernel
theorem dL_drills_819 : decode cL_drills 819 = .ok (.aload_n 0, 1) := by decide +kernel
theorem dL_drills_820 : decode cL_drills 820 = .ok (.invokevirtual 59, 3) := by decide +kernel
theorem dL_drills_823 : decode cL_drills 823 = .ok (.iconst 4, 1) := by decide +kernel
theorem dL_drills_824 : decode cL_drills 824 = .ok (.if_icmp .ne 14, 3) := by decide +kernel
theorem dL_drills_827 : decode cL_drills 827 = .ok (.aload_n 0, 1) := by decide +kernel
theorem dL_drills_828 : decode cL_drills 828 = .ok (.iconst 3, 1) := by decide +kernel
theorem dL_drills_829 : decode cL_drills 829 = .ok (.iconst 5, 1) := by decide +kernel
theorem dL_drills_830 : decode cL_drills 830 = .ok (.iconst 4, 1) := by decide +kernel
theorem dL_drills_831 : decode cL_drills 831 = .ok (.iconst 4, 1) := by decide +kernel
theorem dL_drills_832 : decode cL_drills 832 = .ok (.invokestatic 130, 3) := by decide +kernel
theorem dL_drills_835 : decode cL_drills 835 = .ok (.ifCond .ne 5, 3) := by decide +kernel
theorem dL_drills_838 : decode cL_drills 838 = .ok (.iconst 0, 1) := by decide +kernel
theorem dL_drills_839 : decode cL_drills 839 = .ok (.ireturn, 1) := by decide +kernel
theorem dL_drills_840 : decode cL_drills 840 = .ok (.invokestatic 152, 3) := by decide +kernel
theorem dL_drills_843 : decode cL_drills 843 = .ok (.ifCond .eq 13, 3) := by decide +kernel
theorem dL_drills_846 : decode cL_drills 846 = .ok (.invokestatic 155, 3) := by decide +kernel
theorem dL_drills_849 : decode cL_drills 849 = .ok (.ifCond .eq 7, 3) := by decide +kernel
theorem dL_drills_852 : decode cL_drills 852 = .ok (.iconst 1, 1) := by decide +kernel
theorem dL_drills_853 : decode cL_drills 853 = .ok (.goto 4, 3) := by decide +kernel
theorem dL_drills_856 : decode cL_drills 856 = .ok (.iconst 0, 1) := by decide +kernel
theorem dL_drills_857 : decode cL_drills 857 = .ok (.ireturn, 1) := by decide +kernel
def fL_drills8 (m : dM) : Option dM := (fL_refuses m 4 0 0 0).bind (fun m2 => (fL_act m2 0 9 0 0 0 0).bind (fun q => dP2 q (fun v6 m5 => if (lg_cmp v6 (-73)) = 0 then (fX11_lasts m5 0).bind (fun v9 => if v9 = 0 then (fX11_agrees m5 0).bind (fun q => dP2 q (fun v12 m11 => if v12 = 0 then none else (fL_act m11 0 0 3 0 0 0).bind (fun q => dP2 q (fun v15 m14 => if (lg_cmp v15 1) = 0 then (fX11_line m14 0 0 0 100 50).bind (fun q => dS q (fun _ => none) (fun q => dP2 q (fun v18 m17 => if v18 = 0 then (fX11_line m17 0 100 50 0 0).bind (fun q => dS q (fun _ => none) (fun q => dP2 q (fun v22 m21 => if v22 = 1 then (fX11_line m21 0 100 0 99 0).bind (fun q => dS q (fun _ => none) (fun q => dP2 q (fun v26 m25 => if v26 = 2 then (fX11_block m25 0 10 10 2 20).bind (fun q => dS q (fun _ => none) (fun q => dP2 q (fun v30 m29 => if v30 = 3 then some m29 else none))) else none))) else none))) else none))) else none)))) else none) else none)))
set_option maxHeartbeats 4000000 in
set_option maxRecDepth 100000 in
theorem kL_drills8 {p : Program} {l : Launch} {e : Env} {s : State} {mth : MethodId} {below : List Frame} {meth : Method} {c : Code} {g : dG} {Q : State → Prop} {H : Heap} {cells slots : Nat} {ls : Array Slot} {m m9 : dM} {K : Heap → Prop} (hst : l.stackTraces = false) (S : CallFix p mth c cL_drills 1 s (([] : List Value).toArray) wsL_drills RL) (hE : dEw g s) (hKs : ∀ H H1 : Heap, (∀ q, q < g.2.2.2 → H1[q]? = H[q]?) → K H → K H1) (hR : cells + 950 ≤ (headSpec wsL_drills (dDm 13 270 6141 39698)).room.cells ∧ slots + 5700 ≤ (headSpec wsL_drills (dDm 13 270 6141 39698)).room.slots) (h : fL_drills8 m = some m9) (hP : va_P g.1 vwCl (dws g m) H) (hS : va_S (dAs s) s.heap H []) (hb : g.2.2.2 ≤ H.size) (hK : K H) (hl : lv_has ls 1 [(0, .ref (dad g 0))])
    (kk : ∀ (H : Heap) (ls : Array Slot) (cells2 slots2 : Nat), cells2 ≤ cells + 950 → slots2 ≤ slots + 5700 → va_P g.1 vwCl (dws g m9) H → va_S (dAs s) s.heap H [] → g.2.2.2 ≤ H.size → K H → lv_has ls 1 [(0, .ref (dad g 0))] → W p l e (headSpec wsL_drills (dDm 13 270 6141 39698)).room s mth (([] : List Value).toArray) below meth c H [] cells2 slots2 Q (F0 mth 120 ls [])) : W p l e (headSpec wsL_drills (dDm 13 270 6141 39698)).room s mth (([] : List Value).toArray) below meth c H [] cells slots Q (F0 mth 8 ls []) := by
  obtain ⟨hR1, hR2⟩ := hR
  unfold fL_drills8 at h
  refine lv_aload_n S.1 S.2.1 dL_drills_8 rfl (lv_at hl 0 rfl) ?_
  refine lv_iconst (v := 4) S.1 S.2.1 dL_drills_9 (by decide) ?_
  refine lv_iconst (v := 0) S.1 S.2.1 dL_drills_10 (by decide) ?_
  refine lv_iconst (v := 0) S.1 S.2.1 dL_drills_11 (by decide) ?_
  refine lv_iconst (v := 0) S.1 S.2.1 dL_drills_12 (by decide) ?_
  obtain ⟨m2, hc1, h⟩ := d_b h
  refine dwLi (vx_runS (As := [.ref (dad g 0), .int 4, .int 0, .int 0, .int 0]) (rest := []) S (kL_refuses l g hst hc1) (va_cwS 5 S.2.2.2.2 gL_drills_L_refuses rfl rfl rfl ynL_refuses ⟨(Nat.le_of_ble_eq_true rfl), (Nat.le_of_ble_eq_true rfl)⟩) (dwS hE hP hS hb) rfl rfl hl.1 rfl (lv_room (Nat.le_of_ble_eq_true rfl)) dL_drills_13 ⟨by omega, by omega⟩) hE hS hb hKs hK (fun H hP hS hb hK => ?_)
  refine lv_if_eq (tgt := 513) S.1 S.2.1 dL_drills_16 (by decide) (fun cq => ?_) (fun cq => ?_)
  · exact absurd cq (by decide)
  · refine lv_aload_n S.1 S.2.1 dL_drills_19 rfl (lv_at hl 0 rfl) ?_
    refine lv_bipush (v := 9) S.1 S.2.1 dL_drills_20 (by decide) ?_
    refine lv_iconst (v := 0) S.1 S.2.1 dL_drills_22 (by decide) ?_
    refine lv_iconst (v := 0) S.1 S.2.1 dL_drills_23 (by decide) ?_
    refine lv_iconst (v := 0) S.1 S.2.1 dL_drills_24 (by decide) ?_
    refine lv_iconst (v := 0) S.1 S.2.1 dL_drills_25 (by decide) ?_
    obtain ⟨⟨v6, m5⟩, hc4, h⟩ := d_b h
    have h := d_p2 h
    refine dwLj (vx_runSX (As := [.ref (dad g 0), .int 9, .int 0, .int 0, .int 0, .int 0]) (rest := []) S (kL_act l g hst hc4) (vx_cwSW 6 S.2.2.2.2 gL_drills_L_act rfl rfl rfl ynL_act ⟨(Nat.le_of_ble_eq_true rfl), (Nat.le_of_ble_eq_true rfl)⟩) (dwS hE hP hS hb) rfl rfl hl.1 rfl (lv_room (Nat.le_of_ble_eq_true rfl)) dL_drills_26 ⟨by omega, by omega⟩) hE hS hb hKs hK (fun H hP hS hb hK => ?_)
    refine lv_ldc2 (v := (-73)) S.1 S.2.1 S.2.2.2.1 (S.2.2.2.2 (.constantLong RL 108 (-73)) (List.mem_of_getElem? (i := 4) rfl)) dL_drills_29 ?_
    refine W.lcmp S.1 S.2.1 dL_drills_32 ?_
    refine lv_if_ne (tgt := 513) S.1 S.2.1 dL_drills_33 (by decide) (fun cq => ?_) (fun cq => ?_)
    · have h := d_f cq h
      cases h
    · have h := d_t cq h
      refine lv_aload_n S.1 S.2.1 dL_drills_36 rfl (lv_at hl 0 rfl) ?_
      obtain ⟨v9, hc7, h⟩ := d_b h
      refine dwi (va_runV (As := []) (rest := []) S (kX11_lasts l g hc7) (cwV 0 S.2.2.2.2 gL_drills_X11_lasts rfl rfl rfl ynX11_lasts ⟨(Nat.le_of_ble_eq_true rfl), (Nat.le_of_ble_eq_true rfl)⟩) (dwV hE hP hS hb (ci := 11) rfl (dat12 dk_0)) rfl rfl hl.1 rfl (lv_room (Nat.le_of_ble_eq_true rfl)) dL_drills_37 ⟨by omega, by omega⟩) hE hS hb hKs hK (fun H hP hS hb hK => ?_)
      refine lv_if_ne (tgt := 513) S.1 S.2.1 dL_drills_40 (by decide) (fun cq => ?_) (fun cq => ?_)
      · have h := d_f cq h
        cases h
      · have h := d_t cq h
        refine lv_aload_n S.1 S.2.1 dL_drills_43 rfl (lv_at hl 0 rfl) ?_
        obtain ⟨⟨v12, m11⟩, hc10, h⟩ := d_b h
        have h := d_p2 h
        refine dwi (va_runV (As := []) (rest := []) S (kX11_agrees l g hc10) (cwV 0 S.2.2.2.2 gL_drills_X11_agrees rfl rfl rfl ynX11_agrees ⟨(Nat.le_of_ble_eq_true rfl), (Nat.le_of_ble_eq_true rfl)⟩) (dwV hE hP hS hb (ci := 11) rfl (dat12 dk_0)) rfl rfl hl.1 rfl (lv_room (Nat.le_of_ble_eq_true rfl)) dL_drills_44 ⟨by omega, by omega⟩) hE hS hb hKs hK (fun H hP hS hb hK => ?_)
        refine lv_if_eq (tgt := 513) S.1 S.2.1 dL_drills_47 (by decide) (fun cq => ?_) (fun cq => ?_)
        · have h := d_t cq h
          cases h
        · have h := d_f cq h
          refine lv_aload_n S.1 S.2.1 dL_drills_50 rfl (lv_at hl 0 rfl) ?_
          refine lv_iconst (v := 0) S.1 S.2.1 dL_drills_51 (by decide) ?_
          refine lv_iconst (v := 3) S.1 S.2.1 dL_drills_52 (by decide) ?_
          refine lv_iconst (v := 0) S.1 S.2.1 dL_drills_53 (by decide) ?_
          refine lv_iconst (v := 0) S.1 S.2.1 dL_drills_54 (by decide) ?_
          refine lv_iconst (v := 0) S.1 S.2.1 dL_drills_55 (by decide) ?_
          obtain ⟨⟨v15, m14⟩, hc13, h⟩ := d_b h
          have h := d_p2 h
          refine dwLj (vx_runSX (As := [.ref (dad g 0), .int 0, .int 3, .int 0, .int 0, .int 0]) (rest := []) S (kL_act l g hst hc13) (vx_cwSW 6 S.2.2.2.2 gL_drills_L_act rfl rfl rfl ynL_act ⟨(Nat.le_of_ble_eq_true rfl), (Nat.le_of_ble_eq_true rfl)⟩) (dwS hE hP hS hb) rfl rfl hl.1 rfl (lv_room (Nat.le_of_ble_eq_true rfl)) dL_drills_56 ⟨by omega, by omega⟩) hE hS hb hKs hK (fun H hP hS hb hK => ?_)
          refine lv_lconst (v := 1) S.1 S.2.1 dL_drills_59 (by decide) ?_
          refine W.lcmp S.1 S.2.1 dL_drills_60 ?_
          refine lv_if_ne (tgt := 513) S.1 S.2.1 dL_drills_61 (by decide) (fun cq => ?_) (fun cq => ?_)
          · have h := d_f cq h
            cases h
          · have h := d_t cq h
            refine lv_aload_n S.1 S.2.1 dL_drills_64 rfl (lv_at hl 0 rfl) ?_
            refine lv_iconst (v := 0) S.1 S.2.1 dL_drills_65 (by decide) ?_
            refine lv_iconst (v := 0) S.1 S.2.1 dL_drills_66 (by decide) ?_
            refine lv_bipush (v := 100) S.1 S.2.1 dL_drills_67 (by decide) ?_
            refine lv_bipush (v := 50) S.1 S.2.1 dL_drills_69 (by decide) ?_
            obtain ⟨q19, hc16, h⟩ := d_b h
            rcases q19 with q19 | q19
            · have h := d_s1 h
              cases h
            obtain ⟨v18, m17⟩ := q19
            have h := d_s2 h
            have h := d_p2 h
            refine dwxi (vx_runV (As := [.int 0, .int 0, .int 100, .int 50]) (rest := []) S (kX11_line l g hst hc16) (cwV 4 S.2.2.2.2 gL_drills_X11_line rfl rfl rfl ynX11_line ⟨(Nat.le_of_ble_eq_true rfl), (Nat.le_of_ble_eq_true rfl)⟩) (dwV hE hP hS hb (ci := 11) rfl (dat12 dk_0)) rfl rfl hl.1 rfl (lv_room (Nat.le_of_ble_eq_true rfl)) dL_drills_71 ⟨by omega, by omega⟩) rfl hE hS hb hKs hK (fun H hP hS hb hK => ?_)
            refine lv_if_ne (tgt := 513) S.1 S.2.1 dL_drills_74 (by decide) (fun cq => ?_) (fun cq => ?_)
            · have h := d_f cq h
              cases h
            · have h := d_t cq h
              refine lv_aload_n S.1 S.2.1 dL_drills_77 rfl (lv_at hl 0 rfl) ?_
              refine lv_bipush (v := 100) S.1 S.2.1 dL_drills_78 (by decide) ?_
              refine lv_bipush (v := 50) S.1 S.2.1 dL_drills_80 (by decide) ?_
              refine lv_iconst (v := 0) S.1 S.2.1 dL_drills_82 (by decide) ?_
              refine lv_iconst (v := 0) S.1 S.2.1 dL_drills_83 (by decide) ?_
              obtain ⟨q23, hc20, h⟩ := d_b h
              rcases q23 with q23 | q23
              · have h := d_s1 h
                cases h
              obtain ⟨v22, m21⟩ := q23
              have h := d_s2 h
              have h := d_p2 h
              refine dwxi (vx_runV (As := [.int 100, .int 50, .int 0, .int 0]) (rest := []) S (kX11_line l g hst hc20) (cwV 4 S.2.2.2.2 gL_drills_X11_line rfl rfl rfl ynX11_line ⟨(Nat.le_of_ble_eq_true rfl), (Nat.le_of_ble_eq_true rfl)⟩) (dwV hE hP hS hb (ci := 11) rfl (dat12 dk_0)) rfl rfl hl.1 rfl (lv_room (Nat.le_of_ble_eq_true rfl)) dL_drills_84 ⟨by omega, by omega⟩) rfl hE hS hb hKs hK (fun H hP hS hb hK => ?_)
              refine lv_iconst (v := 1) S.1 S.2.1 dL_drills_87 (by decide) ?_
              refine lv_icmp_ne (tgt := 513) S.1 S.2.1 dL_drills_88 (by decide) (fun cq => ?_) (fun cq => ?_)
              · have h := d_f cq h
                cases h
              · have h := d_t cq h
                refine lv_aload_n S.1 S.2.1 dL_drills_91 rfl (lv_at hl 0 rfl) ?_
                refine lv_bipush (v := 100) S.1 S.2.1 dL_drills_92 (by decide) ?_
                refine lv_iconst (v := 0) S.1 S.2.1 dL_drills_94 (by decide) ?_
                refine lv_bipush (v := 99) S.1 S.2.1 dL_drills_95 (by decide) ?_
                refine lv_iconst (v := 0) S.1 S.2.1 dL_drills_97 (by decide) ?_
                obtain ⟨q27, hc24, h⟩ := d_b h
                rcases q27 with q27 | q27
                · have h := d_s1 h
                  cases h
                obtain ⟨v26, m25⟩ := q27
                have h := d_s2 h
                have h := d_p2 h
                refine dwxi (vx_runV (As := [.int 100, .int 0, .int 99, .int 0]) (rest := []) S (kX11_line l g hst hc24) (cwV 4 S.2.2.2.2 gL_drills_X11_line rfl rfl rfl ynX11_line ⟨(Nat.le_of_ble_eq_true rfl), (Nat.le_of_ble_eq_true rfl)⟩) (dwV hE hP hS hb (ci := 11) rfl (dat12 dk_0)) rfl rfl hl.1 rfl (lv_room (Nat.le_of_ble_eq_true rfl)) dL_drills_98 ⟨by omega, by omega⟩) rfl hE hS hb hKs hK (fun H hP hS hb hK => ?_)
                refine lv_iconst (v := 2) S.1 S.2.1 dL_drills_101 (by decide) ?_
                refine lv_icmp_ne (tgt := 513) S.1 S.2.1 dL_drills_102 (by decide) (fun cq => ?_) (fun cq => ?_)
                · have h := d_f cq h
                  cases h
                · have h := d_t cq h
                  refine lv_aload_n S.1 S.2.1 dL_drills_105 rfl (lv_at hl 0 rfl) ?_
                  refine lv_bipush (v := 10) S.1 S.2.1 dL_drills_106 (by decide) ?_
                  refine lv_bipush (v := 10) S.1 S.2.1 dL_drills_108 (by decide) ?_
                  refine lv_iconst (v := 2) S.1 S.2.1 dL_drills_110 (by decide) ?_
                  refine lv_bipush (v := 20) S.1 S.2.1 dL_drills_111 (by decide) ?_
                  obtain ⟨q31, hc28, h⟩ := d_b h
                  rcases q31 with q31 | q31
                  · have h := d_s1 h
                    cases h
                  obtain ⟨v30, m29⟩ := q31
                  have h := d_s2 h
                  have h := d_p2 h
                  refine dwxi (vx_runV (As := [.int 10, .int 10, .int 2, .int 20]) (rest := []) S (kX11_block l g hst hc28) (cwV 4 S.2.2.2.2 gL_drills_X11_block rfl rfl rfl ynX11_block ⟨(Nat.le_of_ble_eq_true rfl), (Nat.le_of_ble_eq_true rfl)⟩) (dwV hE hP hS hb (ci := 11) rfl (dat12 dk_0)) rfl rfl hl.1 rfl (lv_room (Nat.le_of_ble_eq_true rfl)) dL_drills_113 ⟨by omega, by omega⟩) rfl hE hS hb hKs hK (fun H hP hS hb hK => ?_)
                  refine lv_iconst (v := 3) S.1 S.2.1 dL_drills_116 (by decide) ?_
                  refine lv_icmp_ne (tgt := 513) S.1 S.2.1 dL_drills_117 (by decide) (fun cq => ?_) (fun cq => ?_)
                  · have h := d_f cq h
                    cases h
                  · have h := d_t cq h
                    obtain rfl := Option.some.inj h
                    exact kk H ls _ _ (by omega) (by omega) hP hS hb hK (lv_sub hl [0] rfl)
def fL_drills120 (m : dM) : Option dM := (fX11_wedge m 0 500 100 10).bind (fun q => dS q (fun _ => none) (fun q => dP2 q (fun v3 m2 => if v3 = 4 then (fL_act m2 0 5 1590 0 2 20).bind (fun q => dP2 q (fun v7 m6 => if (lg_cmp v7 (-72)) = 0 then (fL_act m6 0 6 5 0 10 0).bind (fun q => dP2 q (fun v10 m9 => if (lg_cmp v10 (-72)) = 0 then (fL_act m9 0 6 500 835 10 0).bind (fun q => dP2 q (fun v13 m12 => if (lg_cmp v13 (-72)) = 0 then (fX11_part m12 0 0 10 120 0).bind (fun q => dS q (fun _ => none) (fun q => dP2 q (fun v16 m15 => if v16 = 0 then (fX11_place m15 0 0 1).bind (fun q => dS q (fun _ => none) (fun q => dP2 q (fun v20 m19 => if v20 = 1 then (fX11_walking m19 0 0).bind (fun q => dS q (fun _ => none) (fun q => dP2 q (fun v24 m23 => if (lg_cmp v24 0) = 0 then (fX11_at m23 0 0 5 1).bind (fun q => dS q (fun _ => none) (fun q => dP2 q (fun v28 m27 => if v28 = 100025 then (fX11_at m27 0 0 10 2).bind (fun q => dS q (fun _ => none) (fun q => dP2 q (fun v32 m31 => if v32 = 200050 then some m31 else none))) else none))) else none))) else none))) else none))) else none)) else none)) else none)) else none)))
set_option maxHeartbeats 4000000 in
set_option maxRecDepth 100000 in
theorem kL_drills120 {p : Program} {l : Launch} {e : Env} {s : State} {mth : MethodId} {below : List Frame} {meth : Method} {c : Code} {g : dG} {Q : State → Prop} {H : Heap} {cells slots : Nat} {ls : Array Slot} {m m9 : dM} {K : Heap → Prop} (hst : l.stackTraces = false) (S : CallFix p mth c cL_drills 1 s (([] : List Value).toArray) wsL_drills RL) (hE : dEw g s) (hKs : ∀ H H1 : Heap, (∀ q, q < g.2.2.2 → H1[q]? = H[q]?) → K H → K H1) (hR : cells + 27 ≤ (headSpec wsL_drills (dDm 13 270 6141 39698)).room.cells ∧ slots + 162 ≤ (headSpec wsL_drills (dDm 13 270 6141 39698)).room.slots) (h : fL_drills120 m = some m9) (hP : va_P g.1 vwCl (dws g m) H) (hS : va_S (dAs s) s.heap H []) (hb : g.2.2.2 ≤ H.size) (hK : K H) (hl : lv_has ls 1 [(0, .ref (dad g 0))])
    (kk : ∀ (H : Heap) (ls : Array Slot) (cells2 slots2 : Nat), cells2 ≤ cells + 27 → slots2 ≤ slots + 162 → va_P g.1 vwCl (dws g m9) H → va_S (dAs s) s.heap H [] → g.2.2.2 ≤ H.size → K H → lv_has ls 1 [(0, .ref (dad g 0))] → W p l e (headSpec wsL_drills (dDm 13 270 6141 39698)).room s mth (([] : List Value).toArray) below meth c H [] cells2 slots2 Q (F0 mth 252 ls [])) : W p l e (headSpec wsL_drills (dDm 13 270 6141 39698)).room s mth (([] : List Value).toArray) below meth c H [] cells slots Q (F0 mth 120 ls []) := by
  obtain ⟨hR1, hR2⟩ := hR
  unfold fL_drills120 at h
  refine lv_aload_n S.1 S.2.1 dL_drills_120 rfl (lv_at hl 0 rfl) ?_
  refine lv_sipush (v := 500) S.1 S.2.1 dL_drills_121 (by decide) ?_
  refine lv_bipush (v := 100) S.1 S.2.1 dL_drills_124 (by decide) ?_
  refine lv_bipush (v := 10) S.1 S.2.1 dL_drills_126 (by decide) ?_
  obtain ⟨q4, hc1, h⟩ := d_b h
  rcases q4 with q4 | q4
  · have h := d_s1 h
    cases h
  obtain ⟨v3, m2⟩ := q4
  have h := d_s2 h
  have h := d_p2 h
  refine dwxi (vx_runV (As := [.int 500, .int 100, .int 10]) (rest := []) S (kX11_wedge l g hst hc1) (cwV 3 S.2.2.2.2 gL_drills_X11_wedge rfl rfl rfl ynX11_wedge ⟨(Nat.le_of_ble_eq_true rfl), (Nat.le_of_ble_eq_true rfl)⟩) (dwV hE hP hS hb (ci := 11) rfl (dat12 dk_0)) rfl rfl hl.1 rfl (lv_room (Nat.le_of_ble_eq_true rfl)) dL_drills_128 ⟨by omega, by omega⟩) rfl hE hS hb hKs hK (fun H hP hS hb hK => ?_)
  refine lv_iconst (v := 4) S.1 S.2.1 dL_drills_131 (by decide) ?_
  refine lv_icmp_ne (tgt := 513) S.1 S.2.1 dL_drills_132 (by decide) (fun cq => ?_) (fun cq => ?_)
  · have h := d_f cq h
    cases h
  · have h := d_t cq h
    refine lv_aload_n S.1 S.2.1 dL_drills_135 rfl (lv_at hl 0 rfl) ?_
    refine lv_iconst (v := 5) S.1 S.2.1 dL_drills_136 (by decide) ?_
    refine lv_sipush (v := 1590) S.1 S.2.1 dL_drills_137 (by decide) ?_
    refine lv_iconst (v := 0) S.1 S.2.1 dL_drills_140 (by decide) ?_
    refine lv_iconst (v := 2) S.1 S.2.1 dL_drills_141 (by decide) ?_
    refine lv_bipush (v := 20) S.1 S.2.1 dL_drills_142 (by decide) ?_
    obtain ⟨⟨v7, m6⟩, hc5, h⟩ := d_b h
    have h := d_p2 h
    refine dwLj (vx_runSX (As := [.ref (dad g 0), .int 5, .int 1590, .int 0, .int 2, .int 20]) (rest := []) S (kL_act l g hst hc5) (vx_cwSW 6 S.2.2.2.2 gL_drills_L_act rfl rfl rfl ynL_act ⟨(Nat.le_of_ble_eq_true rfl), (Nat.le_of_ble_eq_true rfl)⟩) (dwS hE hP hS hb) rfl rfl hl.1 rfl (lv_room (Nat.le_of_ble_eq_true rfl)) dL_drills_144 ⟨by omega, by omega⟩) hE hS hb hKs hK (fun H hP hS hb hK => ?_)
    refine lv_ldc2 (v := (-72)) S.1 S.2.1 S.2.2.2.1 (S.2.2.2.2 (.constantLong RL 104 (-72)) (List.mem_of_getElem? (i := 5) rfl)) dL_drills_147 ?_
    refine W.lcmp S.1 S.2.1 dL_drills_150 ?_
    refine lv_if_ne (tgt := 513) S.1 S.2.1 dL_drills_151 (by decide) (fun cq => ?_) (fun cq => ?_)
    · have h := d_f cq h
      cases h
    · have h := d_t cq h
      refine lv_aload_n S.1 S.2.1 dL_drills_154 rfl (lv_at hl 0 rfl) ?_
      refine lv_bipush (v := 6) S.1 S.2.1 dL_drills_155 (by decide) ?_
      refine lv_iconst (v := 5) S.1 S.2.1 dL_drills_157 (by decide) ?_
      refine lv_iconst (v := 0) S.1 S.2.1 dL_drills_158 (by decide) ?_
      refine lv_bipush (v := 10) S.1 S.2.1 dL_drills_159 (by decide) ?_
      refine lv_iconst (v := 0) S.1 S.2.1 dL_drills_161 (by decide) ?_
      obtain ⟨⟨v10, m9⟩, hc8, h⟩ := d_b h
      have h := d_p2 h
      refine dwLj (vx_runSX (As := [.ref (dad g 0), .int 6, .int 5, .int 0, .int 10, .int 0]) (rest := []) S (kL_act l g hst hc8) (vx_cwSW 6 S.2.2.2.2 gL_drills_L_act rfl rfl rfl ynL_act ⟨(Nat.le_of_ble_eq_true rfl), (Nat.le_of_ble_eq_true rfl)⟩) (dwS hE hP hS hb) rfl rfl hl.1 rfl (lv_room (Nat.le_of_ble_eq_true rfl)) dL_drills_162 ⟨by omega, by omega⟩) hE hS hb hKs hK (fun H hP hS hb hK => ?_)
      refine lv_ldc2 (v := (-72)) S.1 S.2.1 S.2.2.2.1 (S.2.2.2.2 (.constantLong RL 104 (-72)) (List.mem_of_getElem? (i := 5) rfl)) dL_drills_165 ?_
      refine W.lcmp S.1 S.2.1 dL_drills_168 ?_
      refine lv_if_ne (tgt := 513) S.1 S.2.1 dL_drills_169 (by decide) (fun cq => ?_) (fun cq => ?_)
      · have h := d_f cq h
        cases h
      · have h := d_t cq h
        refine lv_aload_n S.1 S.2.1 dL_drills_172 rfl (lv_at hl 0 rfl) ?_
        refine lv_bipush (v := 6) S.1 S.2.1 dL_drills_173 (by decide) ?_
        refine lv_sipush (v := 500) S.1 S.2.1 dL_drills_175 (by decide) ?_
        refine lv_sipush (v := 835) S.1 S.2.1 dL_drills_178 (by decide) ?_
        refine lv_bipush (v := 10) S.1 S.2.1 dL_drills_181 (by decide) ?_
        refine lv_iconst (v := 0) S.1 S.2.1 dL_drills_183 (by decide) ?_
        obtain ⟨⟨v13, m12⟩, hc11, h⟩ := d_b h
        have h := d_p2 h
        refine dwLj (vx_runSX (As := [.ref (dad g 0), .int 6, .int 500, .int 835, .int 10, .int 0]) (rest := []) S (kL_act l g hst hc11) (vx_cwSW 6 S.2.2.2.2 gL_drills_L_act rfl rfl rfl ynL_act ⟨(Nat.le_of_ble_eq_true rfl), (Nat.le_of_ble_eq_true rfl)⟩) (dwS hE hP hS hb) rfl rfl hl.1 rfl (lv_room (Nat.le_of_ble_eq_true rfl)) dL_drills_184 ⟨by omega, by omega⟩) hE hS hb hKs hK (fun H hP hS hb hK => ?_)
        refine lv_ldc2 (v := (-72)) S.1 S.2.1 S.2.2.2.1 (S.2.2.2.2 (.constantLong RL 104 (-72)) (List.mem_of_getElem? (i := 5) rfl)) dL_drills_187 ?_
        refine W.lcmp S.1 S.2.1 dL_drills_190 ?_
        refine lv_if_ne (tgt := 513) S.1 S.2.1 dL_drills_191 (by decide) (fun cq => ?_) (fun cq => ?_)
        · have h := d_f cq h
          cases h
        · have h := d_t cq h
          refine lv_aload_n S.1 S.2.1 dL_drills_194 rfl (lv_at hl 0 rfl) ?_
          refine lv_iconst (v := 0) S.1 S.2.1 dL_drills_195 (by decide) ?_
          refine lv_bipush (v := 10) S.1 S.2.1 dL_drills_196 (by decide) ?_
          refine lv_bipush (v := 120) S.1 S.2.1 dL_drills_198 (by decide) ?_
          refine lv_iconst (v := 0) S.1 S.2.1 dL_drills_200 (by decide) ?_
          obtain ⟨q17, hc14, h⟩ := d_b h
          rcases q17 with q17 | q17
          · have h := d_s1 h
            cases h
          obtain ⟨v16, m15⟩ := q17
          have h := d_s2 h
          have h := d_p2 h
          refine dwxi (vx_runV (As := [.int 0, .int 10, .int 120, .int 0]) (rest := []) S (kX11_part l g hst hc14) (cwV 4 S.2.2.2.2 gL_drills_X11_part rfl rfl rfl ynX11_part ⟨(Nat.le_of_ble_eq_true rfl), (Nat.le_of_ble_eq_true rfl)⟩) (dwV hE hP hS hb (ci := 11) rfl (dat12 dk_0)) rfl rfl hl.1 rfl (lv_room (Nat.le_of_ble_eq_true rfl)) dL_drills_201 ⟨by omega, by omega⟩) rfl hE hS hb hKs hK (fun H hP hS hb hK => ?_)
          refine lv_if_ne (tgt := 513) S.1 S.2.1 dL_drills_204 (by decide) (fun cq => ?_) (fun cq => ?_)
          · have h := d_f cq h
            cases h
          · have h := d_t cq h
            refine lv_aload_n S.1 S.2.1 dL_drills_207 rfl (lv_at hl 0 rfl) ?_
            refine lv_iconst (v := 0) S.1 S.2.1 dL_drills_208 (by decide) ?_
            refine lv_iconst (v := 1) S.1 S.2.1 dL_drills_209 (by decide) ?_
            obtain ⟨q21, hc18, h⟩ := d_b h
            rcases q21 with q21 | q21
            · have h := d_s1 h
              cases h
            obtain ⟨v20, m19⟩ := q21
            have h := d_s2 h
            have h := d_p2 h
            refine dwxi (vx_runV (As := [.int 0, .int 1]) (rest := []) S (kX11_place l g hst hc18) (cwV 2 S.2.2.2.2 gL_drills_X11_place rfl rfl rfl ynX11_place ⟨(Nat.le_of_ble_eq_true rfl), (Nat.le_of_ble_eq_true rfl)⟩) (dwV hE hP hS hb (ci := 11) rfl (dat12 dk_0)) rfl rfl hl.1 rfl (lv_room (Nat.le_of_ble_eq_true rfl)) dL_drills_210 ⟨by omega, by omega⟩) rfl hE hS hb hKs hK (fun H hP hS hb hK => ?_)
            refine lv_iconst (v := 1) S.1 S.2.1 dL_drills_213 (by decide) ?_
            refine lv_icmp_ne (tgt := 513) S.1 S.2.1 dL_drills_214 (by decide) (fun cq => ?_) (fun cq => ?_)
            · have h := d_f cq h
              cases h
            · have h := d_t cq h
              refine lv_aload_n S.1 S.2.1 dL_drills_217 rfl (lv_at hl 0 rfl) ?_
              refine lv_iconst (v := 0) S.1 S.2.1 dL_drills_218 (by decide) ?_
              obtain ⟨q25, hc22, h⟩ := d_b h
              rcases q25 with q25 | q25
              · have h := d_s1 h
                cases h
              obtain ⟨v24, m23⟩ := q25
              have h := d_s2 h
              have h := d_p2 h
              refine dwxj (vx_runV (As := [.int 0]) (rest := []) S (kX11_walking l g hst hc22) (cwV 1 S.2.2.2.2 gL_drills_X11_walking rfl rfl rfl ynX11_walking ⟨(Nat.le_of_ble_eq_true rfl), (Nat.le_of_ble_eq_true rfl)⟩) (dwV hE hP hS hb (ci := 11) rfl (dat12 dk_0)) rfl rfl hl.1 rfl (lv_room (Nat.le_of_ble_eq_true rfl)) dL_drills_219 ⟨by omega, by omega⟩) rfl hE hS hb hKs hK (fun H hP hS hb hK => ?_)
              refine lv_lconst (v := 0) S.1 S.2.1 dL_drills_222 (by decide) ?_
              refine W.lcmp S.1 S.2.1 dL_drills_223 ?_
              refine lv_if_ne (tgt := 513) S.1 S.2.1 dL_drills_224 (by decide) (fun cq => ?_) (fun cq => ?_)
              · have h := d_f cq h
                cases h
              · have h := d_t cq h
                refine lv_aload_n S.1 S.2.1 dL_drills_227 rfl (lv_at hl 0 rfl) ?_
                refine lv_iconst (v := 0) S.1 S.2.1 dL_drills_228 (by decide) ?_
                refine lv_iconst (v := 5) S.1 S.2.1 dL_drills_229 (by decide) ?_
                refine lv_iconst (v := 1) S.1 S.2.1 dL_drills_230 (by decide) ?_
                obtain ⟨q29, hc26, h⟩ := d_b h
                rcases q29 with q29 | q29
                · have h := d_s1 h
                  cases h
                obtain ⟨v28, m27⟩ := q29
                have h := d_s2 h
                have h := d_p2 h
                refine dwxi (vx_runV (As := [.int 0, .int 5, .int 1]) (rest := []) S (kX11_at l g hst hc26) (cwV 3 S.2.2.2.2 gL_drills_X11_at rfl rfl rfl ynX11_at ⟨(Nat.le_of_ble_eq_true rfl), (Nat.le_of_ble_eq_true rfl)⟩) (dwV hE hP hS hb (ci := 11) rfl (dat12 dk_0)) rfl rfl hl.1 rfl (lv_room (Nat.le_of_ble_eq_true rfl)) dL_drills_231 ⟨by omega, by omega⟩) rfl hE hS hb hKs hK (fun H hP hS hb hK => ?_)
                refine lv_ldc (v := 100025) S.1 S.2.1 S.2.2.2.1 (S.2.2.2.2 (.constant RL 138 (100025)) (List.mem_of_getElem? (i := 6) rfl)) dL_drills_234 ?_
                refine lv_icmp_ne (tgt := 513) S.1 S.2.1 dL_drills_236 (by decide) (fun cq => ?_) (fun cq => ?_)
                · have h := d_f cq h
                  cases h
                · have h := d_t cq h
                  refine lv_aload_n S.1 S.2.1 dL_drills_239 rfl (lv_at hl 0 rfl) ?_
                  refine lv_iconst (v := 0) S.1 S.2.1 dL_drills_240 (by decide) ?_
                  refine lv_bipush (v := 10) S.1 S.2.1 dL_drills_241 (by decide) ?_
                  refine lv_iconst (v := 2) S.1 S.2.1 dL_drills_243 (by decide) ?_
                  obtain ⟨q33, hc30, h⟩ := d_b h
                  rcases q33 with q33 | q33
                  · have h := d_s1 h
                    cases h
                  obtain ⟨v32, m31⟩ := q33
                  have h := d_s2 h
                  have h := d_p2 h
                  refine dwxi (vx_runV (As := [.int 0, .int 10, .int 2]) (rest := []) S (kX11_at l g hst hc30) (cwV 3 S.2.2.2.2 gL_drills_X11_at rfl rfl rfl ynX11_at ⟨(Nat.le_of_ble_eq_true rfl), (Nat.le_of_ble_eq_true rfl)⟩) (dwV hE hP hS hb (ci := 11) rfl (dat12 dk_0)) rfl rfl hl.1 rfl (lv_room (Nat.le_of_ble_eq_true rfl)) dL_drills_244 ⟨by omega, by omega⟩) rfl hE hS hb hKs hK (fun H hP hS hb hK => ?_)
                  refine lv_ldc (v := 200050) S.1 S.2.1 S.2.2.2.1 (S.2.2.2.2 (.constant RL 139 (200050)) (List.mem_of_getElem? (i := 7) rfl)) dL_drills_247 ?_
                  refine lv_icmp_ne (tgt := 513) S.1 S.2.1 dL_drills_249 (by decide) (fun cq => ?_) (fun cq => ?_)
                  · have h := d_f cq h
                    cases h
                  · have h := d_t cq h
                    obtain rfl := Option.some.inj h
                    exact kk H ls _ _ (by omega) (by omega) hP hS hb hK (lv_sub hl [0] rfl)
def fL_drills252 (m : dM) : Option dM := (fL_fault m 0 (-1) (-1) (-1) (-1)).bind (fun m2 => (fX11_part m2 0 1 10 120 1).bind (fun q => dS q (fun _ => none) (fun q => dP2 q (fun v6 m5 => if v6 = 1 then (fX11_walking m5 0 1).bind (fun q => dS q (fun _ => none) (fun q => dP2 q (fun v10 m9 => if (lg_cmp v10 0) = 0 then (fX11_place m9 0 1 0).bind (fun q => dS q (fun _ => none) (fun q => dP2 q (fun v14 m13 => if v14 = 2 then (fX11_place m13 0 1 1).bind (fun q => dS q (fun _ => none) (fun q => dP2 q (fun v18 m17 => if v18 = 1 then (fX11_place m17 0 1 2).bind (fun q => dS q (fun _ => none) (fun q => dP2 q (fun v22 m21 => if v22 = 0 then (fL_fault m21 1 (-1) (-1) (-1) (-1)).bind (fun m25 => (fX11_part m25 0 1 10 120 0).bind (fun q => dS q (fun _ => none) (fun q => dP2 q (fun v29 m28 => if v29 = 2 then (fX11_walking m28 0 2).bind (fun q => dS q (fun _ => none) (fun q => dP2 q (fun v33 m32 => if (lg_cmp v33 25000) = 0 then some m32 else none))) else none)))) else none))) else none))) else none))) else none))) else none))))
set_option maxHeartbeats 4000000 in
set_option maxRecDepth 100000 in
theorem kL_drills252 {p : Program} {l : Launch} {e : Env} {s : State} {mth : MethodId} {below : List Frame} {meth : Method} {c : Code} {g : dG} {Q : State → Prop} {H : Heap} {cells slots : Nat} {ls : Array Slot} {m m9 : dM} {K : Heap → Prop} (hst : l.stackTraces = false) (S : CallFix p mth c cL_drills 1 s (([] : List Value).toArray) wsL_drills RL) (hE : dEw g s) (hKs : ∀ H H1 : Heap, (∀ q, q < g.2.2.2 → H1[q]? = H[q]?) → K H → K H1) (hR : cells + 32 ≤ (headSpec wsL_drills (dDm 13 270 6141 39698)).room.cells ∧ slots + 192 ≤ (headSpec wsL_drills (dDm 13 270 6141 39698)).room.slots) (h : fL_drills252 m = some m9) (hP : va_P g.1 vwCl (dws g m) H) (hS : va_S (dAs s) s.heap H []) (hb : g.2.2.2 ≤ H.size) (hK : K H) (hl : lv_has ls 1 [(0, .ref (dad g 0))])
    (kk : ∀ (H : Heap) (ls : Array Slot) (cells2 slots2 : Nat), cells2 ≤ cells + 32 → slots2 ≤ slots + 192 → va_P g.1 vwCl (dws g m9) H → va_S (dAs s) s.heap H [] → g.2.2.2 ≤ H.size → K H → lv_has ls 1 [(0, .ref (dad g 0))] → W p l e (headSpec wsL_drills (dDm 13 270 6141 39698)).room s mth (([] : List Value).toArray) below meth c H [] cells2 slots2 Q (F0 mth 355 ls [])) : W p l e (headSpec wsL_drills (dDm 13 270 6141 39698)).room s mth (([] : List Value).toArray) below meth c H [] cells slots Q (F0 mth 252 ls []) := by
  obtain ⟨hR1, hR2⟩ := hR
  unfold fL_drills252 at h
  refine lv_aload_n S.1 S.2.1 dL_drills_252 rfl (lv_at hl 0 rfl) ?_
  refine lv_iconst (v := 0) S.1 S.2.1 dL_drills_253 (by decide) ?_
  refine lv_iconst (v := (-1)) S.1 S.2.1 dL_drills_254 (by decide) ?_
  refine lv_iconst (v := (-1)) S.1 S.2.1 dL_drills_255 (by decide) ?_
  refine lv_iconst (v := (-1)) S.1 S.2.1 dL_drills_256 (by decide) ?_
  refine lv_iconst (v := (-1)) S.1 S.2.1 dL_drills_257 (by decide) ?_
  obtain ⟨m2, hc1, h⟩ := d_b h
  refine dwLi (vx_runS (As := [.ref (dad g 0), .int 0, .int (-1), .int (-1), .int (-1), .int (-1)]) (rest := []) S (kL_fault l g hst hc1) (va_cwS 6 S.2.2.2.2 gL_drills_L_fault rfl rfl rfl ynL_fault ⟨(Nat.le_of_ble_eq_true rfl), (Nat.le_of_ble_eq_true rfl)⟩) (dwS hE hP hS hb) rfl rfl hl.1 rfl (lv_room (Nat.le_of_ble_eq_true rfl)) dL_drills_258 ⟨by omega, by omega⟩) hE hS hb hKs hK (fun H hP hS hb hK => ?_)
  refine lv_if_eq (tgt := 513) S.1 S.2.1 dL_drills_261 (by decide) (fun cq => ?_) (fun cq => ?_)
  · exact absurd cq (by decide)
  · refine lv_aload_n S.1 S.2.1 dL_drills_264 rfl (lv_at hl 0 rfl) ?_
    refine lv_iconst (v := 1) S.1 S.2.1 dL_drills_265 (by decide) ?_
    refine lv_bipush (v := 10) S.1 S.2.1 dL_drills_266 (by decide) ?_
    refine lv_bipush (v := 120) S.1 S.2.1 dL_drills_268 (by decide) ?_
    refine lv_iconst (v := 1) S.1 S.2.1 dL_drills_270 (by decide) ?_
    obtain ⟨q7, hc4, h⟩ := d_b h
    rcases q7 with q7 | q7
    · have h := d_s1 h
      cases h
    obtain ⟨v6, m5⟩ := q7
    have h := d_s2 h
    have h := d_p2 h
    refine dwxi (vx_runV (As := [.int 1, .int 10, .int 120, .int 1]) (rest := []) S (kX11_part l g hst hc4) (cwV 4 S.2.2.2.2 gL_drills_X11_part rfl rfl rfl ynX11_part ⟨(Nat.le_of_ble_eq_true rfl), (Nat.le_of_ble_eq_true rfl)⟩) (dwV hE hP hS hb (ci := 11) rfl (dat12 dk_0)) rfl rfl hl.1 rfl (lv_room (Nat.le_of_ble_eq_true rfl)) dL_drills_271 ⟨by omega, by omega⟩) rfl hE hS hb hKs hK (fun H hP hS hb hK => ?_)
    refine lv_iconst (v := 1) S.1 S.2.1 dL_drills_274 (by decide) ?_
    refine lv_icmp_ne (tgt := 513) S.1 S.2.1 dL_drills_275 (by decide) (fun cq => ?_) (fun cq => ?_)
    · have h := d_f cq h
      cases h
    · have h := d_t cq h
      refine lv_aload_n S.1 S.2.1 dL_drills_278 rfl (lv_at hl 0 rfl) ?_
      refine lv_iconst (v := 1) S.1 S.2.1 dL_drills_279 (by decide) ?_
      obtain ⟨q11, hc8, h⟩ := d_b h
      rcases q11 with q11 | q11
      · have h := d_s1 h
        cases h
      obtain ⟨v10, m9⟩ := q11
      have h := d_s2 h
      have h := d_p2 h
      refine dwxj (vx_runV (As := [.int 1]) (rest := []) S (kX11_walking l g hst hc8) (cwV 1 S.2.2.2.2 gL_drills_X11_walking rfl rfl rfl ynX11_walking ⟨(Nat.le_of_ble_eq_true rfl), (Nat.le_of_ble_eq_true rfl)⟩) (dwV hE hP hS hb (ci := 11) rfl (dat12 dk_0)) rfl rfl hl.1 rfl (lv_room (Nat.le_of_ble_eq_true rfl)) dL_drills_280 ⟨by omega, by omega⟩) rfl hE hS hb hKs hK (fun H hP hS hb hK => ?_)
      refine lv_lconst (v := 0) S.1 S.2.1 dL_drills_283 (by decide) ?_
      refine W.lcmp S.1 S.2.1 dL_drills_284 ?_
      refine lv_if_ne (tgt := 513) S.1 S.2.1 dL_drills_285 (by decide) (fun cq => ?_) (fun cq => ?_)
      · have h := d_f cq h
        cases h
      · have h := d_t cq h
        refine lv_aload_n S.1 S.2.1 dL_drills_288 rfl (lv_at hl 0 rfl) ?_
        refine lv_iconst (v := 1) S.1 S.2.1 dL_drills_289 (by decide) ?_
        refine lv_iconst (v := 0) S.1 S.2.1 dL_drills_290 (by decide) ?_
        obtain ⟨q15, hc12, h⟩ := d_b h
        rcases q15 with q15 | q15
        · have h := d_s1 h
          cases h
        obtain ⟨v14, m13⟩ := q15
        have h := d_s2 h
        have h := d_p2 h
        refine dwxi (vx_runV (As := [.int 1, .int 0]) (rest := []) S (kX11_place l g hst hc12) (cwV 2 S.2.2.2.2 gL_drills_X11_place rfl rfl rfl ynX11_place ⟨(Nat.le_of_ble_eq_true rfl), (Nat.le_of_ble_eq_true rfl)⟩) (dwV hE hP hS hb (ci := 11) rfl (dat12 dk_0)) rfl rfl hl.1 rfl (lv_room (Nat.le_of_ble_eq_true rfl)) dL_drills_291 ⟨by omega, by omega⟩) rfl hE hS hb hKs hK (fun H hP hS hb hK => ?_)
        refine lv_iconst (v := 2) S.1 S.2.1 dL_drills_294 (by decide) ?_
        refine lv_icmp_ne (tgt := 513) S.1 S.2.1 dL_drills_295 (by decide) (fun cq => ?_) (fun cq => ?_)
        · have h := d_f cq h
          cases h
        · have h := d_t cq h
          refine lv_aload_n S.1 S.2.1 dL_drills_298 rfl (lv_at hl 0 rfl) ?_
          refine lv_iconst (v := 1) S.1 S.2.1 dL_drills_299 (by decide) ?_
          refine lv_iconst (v := 1) S.1 S.2.1 dL_drills_300 (by decide) ?_
          obtain ⟨q19, hc16, h⟩ := d_b h
          rcases q19 with q19 | q19
          · have h := d_s1 h
            cases h
          obtain ⟨v18, m17⟩ := q19
          have h := d_s2 h
          have h := d_p2 h
          refine dwxi (vx_runV (As := [.int 1, .int 1]) (rest := []) S (kX11_place l g hst hc16) (cwV 2 S.2.2.2.2 gL_drills_X11_place rfl rfl rfl ynX11_place ⟨(Nat.le_of_ble_eq_true rfl), (Nat.le_of_ble_eq_true rfl)⟩) (dwV hE hP hS hb (ci := 11) rfl (dat12 dk_0)) rfl rfl hl.1 rfl (lv_room (Nat.le_of_ble_eq_true rfl)) dL_drills_301 ⟨by omega, by omega⟩) rfl hE hS hb hKs hK (fun H hP hS hb hK => ?_)
          refine lv_iconst (v := 1) S.1 S.2.1 dL_drills_304 (by decide) ?_
          refine lv_icmp_ne (tgt := 513) S.1 S.2.1 dL_drills_305 (by decide) (fun cq => ?_) (fun cq => ?_)
          · have h := d_f cq h
            cases h
          · have h := d_t cq h
            refine lv_aload_n S.1 S.2.1 dL_drills_308 rfl (lv_at hl 0 rfl) ?_
            refine lv_iconst (v := 1) S.1 S.2.1 dL_drills_309 (by decide) ?_
            refine lv_iconst (v := 2) S.1 S.2.1 dL_drills_310 (by decide) ?_
            obtain ⟨q23, hc20, h⟩ := d_b h
            rcases q23 with q23 | q23
            · have h := d_s1 h
              cases h
            obtain ⟨v22, m21⟩ := q23
            have h := d_s2 h
            have h := d_p2 h
            refine dwxi (vx_runV (As := [.int 1, .int 2]) (rest := []) S (kX11_place l g hst hc20) (cwV 2 S.2.2.2.2 gL_drills_X11_place rfl rfl rfl ynX11_place ⟨(Nat.le_of_ble_eq_true rfl), (Nat.le_of_ble_eq_true rfl)⟩) (dwV hE hP hS hb (ci := 11) rfl (dat12 dk_0)) rfl rfl hl.1 rfl (lv_room (Nat.le_of_ble_eq_true rfl)) dL_drills_311 ⟨by omega, by omega⟩) rfl hE hS hb hKs hK (fun H hP hS hb hK => ?_)
            refine lv_if_ne (tgt := 513) S.1 S.2.1 dL_drills_314 (by decide) (fun cq => ?_) (fun cq => ?_)
            · have h := d_f cq h
              cases h
            · have h := d_t cq h
              refine lv_aload_n S.1 S.2.1 dL_drills_317 rfl (lv_at hl 0 rfl) ?_
              refine lv_iconst (v := 1) S.1 S.2.1 dL_drills_318 (by decide) ?_
              refine lv_iconst (v := (-1)) S.1 S.2.1 dL_drills_319 (by decide) ?_
              refine lv_iconst (v := (-1)) S.1 S.2.1 dL_drills_320 (by decide) ?_
              refine lv_iconst (v := (-1)) S.1 S.2.1 dL_drills_321 (by decide) ?_
              refine lv_iconst (v := (-1)) S.1 S.2.1 dL_drills_322 (by decide) ?_
              obtain ⟨m25, hc24, h⟩ := d_b h
              refine dwLi (vx_runS (As := [.ref (dad g 0), .int 1, .int (-1), .int (-1), .int (-1), .int (-1)]) (rest := []) S (kL_fault l g hst hc24) (va_cwS 6 S.2.2.2.2 gL_drills_L_fault rfl rfl rfl ynL_fault ⟨(Nat.le_of_ble_eq_true rfl), (Nat.le_of_ble_eq_true rfl)⟩) (dwS hE hP hS hb) rfl rfl hl.1 rfl (lv_room (Nat.le_of_ble_eq_true rfl)) dL_drills_323 ⟨by omega, by omega⟩) hE hS hb hKs hK (fun H hP hS hb hK => ?_)
              refine lv_if_eq (tgt := 513) S.1 S.2.1 dL_drills_326 (by decide) (fun cq => ?_) (fun cq => ?_)
              · exact absurd cq (by decide)
              · refine lv_aload_n S.1 S.2.1 dL_drills_329 rfl (lv_at hl 0 rfl) ?_
                refine lv_iconst (v := 1) S.1 S.2.1 dL_drills_330 (by decide) ?_
                refine lv_bipush (v := 10) S.1 S.2.1 dL_drills_331 (by decide) ?_
                refine lv_bipush (v := 120) S.1 S.2.1 dL_drills_333 (by decide) ?_
                refine lv_iconst (v := 0) S.1 S.2.1 dL_drills_335 (by decide) ?_
                obtain ⟨q30, hc27, h⟩ := d_b h
                rcases q30 with q30 | q30
                · have h := d_s1 h
                  cases h
                obtain ⟨v29, m28⟩ := q30
                have h := d_s2 h
                have h := d_p2 h
                refine dwxi (vx_runV (As := [.int 1, .int 10, .int 120, .int 0]) (rest := []) S (kX11_part l g hst hc27) (cwV 4 S.2.2.2.2 gL_drills_X11_part rfl rfl rfl ynX11_part ⟨(Nat.le_of_ble_eq_true rfl), (Nat.le_of_ble_eq_true rfl)⟩) (dwV hE hP hS hb (ci := 11) rfl (dat12 dk_0)) rfl rfl hl.1 rfl (lv_room (Nat.le_of_ble_eq_true rfl)) dL_drills_336 ⟨by omega, by omega⟩) rfl hE hS hb hKs hK (fun H hP hS hb hK => ?_)
                refine lv_iconst (v := 2) S.1 S.2.1 dL_drills_339 (by decide) ?_
                refine lv_icmp_ne (tgt := 513) S.1 S.2.1 dL_drills_340 (by decide) (fun cq => ?_) (fun cq => ?_)
                · have h := d_f cq h
                  cases h
                · have h := d_t cq h
                  refine lv_aload_n S.1 S.2.1 dL_drills_343 rfl (lv_at hl 0 rfl) ?_
                  refine lv_iconst (v := 2) S.1 S.2.1 dL_drills_344 (by decide) ?_
                  obtain ⟨q34, hc31, h⟩ := d_b h
                  rcases q34 with q34 | q34
                  · have h := d_s1 h
                    cases h
                  obtain ⟨v33, m32⟩ := q34
                  have h := d_s2 h
                  have h := d_p2 h
                  refine dwxj (vx_runV (As := [.int 2]) (rest := []) S (kX11_walking l g hst hc31) (cwV 1 S.2.2.2.2 gL_drills_X11_walking rfl rfl rfl ynX11_walking ⟨(Nat.le_of_ble_eq_true rfl), (Nat.le_of_ble_eq_true rfl)⟩) (dwV hE hP hS hb (ci := 11) rfl (dat12 dk_0)) rfl rfl hl.1 rfl (lv_room (Nat.le_of_ble_eq_true rfl)) dL_drills_345 ⟨by omega, by omega⟩) rfl hE hS hb hKs hK (fun H hP hS hb hK => ?_)
                  refine lv_ldc2 (v := 25000) S.1 S.2.1 S.2.2.2.1 (S.2.2.2.2 (.constantLong RL 143 (25000)) (List.mem_of_getElem? (i := 8) rfl)) dL_drills_348 ?_
                  refine W.lcmp S.1 S.2.1 dL_drills_351 ?_
                  refine lv_if_ne (tgt := 513) S.1 S.2.1 dL_drills_352 (by decide) (fun cq => ?_) (fun cq => ?_)
                  · have h := d_f cq h
                    cases h
                  · have h := d_t cq h
                    obtain rfl := Option.some.inj h
                    exact kk H ls _ _ (by omega) (by omega) hP hS hb hK (lv_sub hl [0] rfl)
def fL_drills355 (m : dM) : Option dM := (fX11_at m 0 2 3 2).bind (fun q => dS q (fun _ => none) (fun q => dP2 q (fun v3 m2 => if v3 = 140035 then (fX11_at m2 0 2 0 2).bind (fun q => dS q (fun _ => none) (fun q => dP2 q (fun v7 m6 => if v7 = 200050 then (fX11_at m6 0 2 10 2).bind (fun q => dS q (fun _ => none) (fun q => dP2 q (fun v11 m10 => if v11 = 0 then (fL_fault m10 2 5 1 0 1).bind (fun m14 => (fX11_ill m14 0 1 1).bind (fun q => dS q (fun _ => none) (fun q => dP2 q (fun v18 m17 => if v18 = 0 then (fL_fault m17 2 5 1 0 2).bind (fun m21 => (fL_act m21 0 3 0 1 0 0).bind (fun q => dP2 q (fun v25 m24 => if (lg_cmp v25 1) = 0 then (fX11_ill m24 0 1 1).bind (fun q => dS q (fun _ => none) (fun q => dP2 q (fun v28 m27 => if v28 = 0 then none else (fL_fault m27 2 5 1 0 1).bind (fun m31 => some m31)))) else none))) else none)))) else none))) else none))) else none)))
set_option maxHeartbeats 4000000 in
set_option maxRecDepth 100000 in
theorem kL_drills355 {p : Program} {l : Launch} {e : Env} {s : State} {mth : MethodId} {below : List Frame} {meth : Method} {c : Code} {g : dG} {Q : State → Prop} {H : Heap} {cells slots : Nat} {ls : Array Slot} {m m9 : dM} {K : Heap → Prop} (hst : l.stackTraces = false) (S : CallFix p mth c cL_drills 1 s (([] : List Value).toArray) wsL_drills RL) (hE : dEw g s) (hKs : ∀ H H1 : Heap, (∀ q, q < g.2.2.2 → H1[q]? = H[q]?) → K H → K H1) (hR : cells + 39 ≤ (headSpec wsL_drills (dDm 13 270 6141 39698)).room.cells ∧ slots + 234 ≤ (headSpec wsL_drills (dDm 13 270 6141 39698)).room.slots) (h : fL_drills355 m = some m9) (hP : va_P g.1 vwCl (dws g m) H) (hS : va_S (dAs s) s.heap H []) (hb : g.2.2.2 ≤ H.size) (hK : K H) (hl : lv_has ls 1 [(0, .ref (dad g 0))])
    (kk : ∀ (H : Heap) (ls : Array Slot) (cells2 slots2 : Nat), cells2 ≤ cells + 39 → slots2 ≤ slots + 234 → va_P g.1 vwCl (dws g m9) H → va_S (dAs s) s.heap H [] → g.2.2.2 ≤ H.size → K H → lv_has ls 1 [(0, .ref (dad g 0))] → W p l e (headSpec wsL_drills (dDm 13 270 6141 39698)).room s mth (([] : List Value).toArray) below meth c H [] cells2 slots2 Q (F0 mth 458 ls [])) : W p l e (headSpec wsL_drills (dDm 13 270 6141 39698)).room s mth (([] : List Value).toArray) below meth c H [] cells slots Q (F0 mth 355 ls []) := by
  obtain ⟨hR1, hR2⟩ := hR
  unfold fL_drills355 at h
  refine lv_aload_n S.1 S.2.1 dL_drills_355 rfl (lv_at hl 0 rfl) ?_
  refine lv_iconst (v := 2) S.1 S.2.1 dL_drills_356 (by decide) ?_
  refine lv_iconst (v := 3) S.1 S.2.1 dL_drills_357 (by decide) ?_
  refine lv_iconst (v := 2) S.1 S.2.1 dL_drills_358 (by decide) ?_
  obtain ⟨q4, hc1, h⟩ := d_b h
  rcases q4 with q4 | q4
  · have h := d_s1 h
    cases h
  obtain ⟨v3, m2⟩ := q4
  have h := d_s2 h
  have h := d_p2 h
  refine dwxi (vx_runV (As := [.int 2, .int 3, .int 2]) (rest := []) S (kX11_at l g hst hc1) (cwV 3 S.2.2.2.2 gL_drills_X11_at rfl rfl rfl ynX11_at ⟨(Nat.le_of_ble_eq_true rfl), (Nat.le_of_ble_eq_true rfl)⟩) (dwV hE hP hS hb (ci := 11) rfl (dat12 dk_0)) rfl rfl hl.1 rfl (lv_room (Nat.le_of_ble_eq_true rfl)) dL_drills_359 ⟨by omega, by omega⟩) rfl hE hS hb hKs hK (fun H hP hS hb hK => ?_)
  refine lv_ldc (v := 140035) S.1 S.2.1 S.2.2.2.1 (S.2.2.2.2 (.constant RL 145 (140035)) (List.mem_of_getElem? (i := 9) rfl)) dL_drills_362 ?_
  refine lv_icmp_ne (tgt := 513) S.1 S.2.1 dL_drills_364 (by decide) (fun cq => ?_) (fun cq => ?_)
  · have h := d_f cq h
    cases h
  · have h := d_t cq h
    refine lv_aload_n S.1 S.2.1 dL_drills_367 rfl (lv_at hl 0 rfl) ?_
    refine lv_iconst (v := 2) S.1 S.2.1 dL_drills_368 (by decide) ?_
    refine lv_iconst (v := 0) S.1 S.2.1 dL_drills_369 (by decide) ?_
    refine lv_iconst (v := 2) S.1 S.2.1 dL_drills_370 (by decide) ?_
    obtain ⟨q8, hc5, h⟩ := d_b h
    rcases q8 with q8 | q8
    · have h := d_s1 h
      cases h
    obtain ⟨v7, m6⟩ := q8
    have h := d_s2 h
    have h := d_p2 h
    refine dwxi (vx_runV (As := [.int 2, .int 0, .int 2]) (rest := []) S (kX11_at l g hst hc5) (cwV 3 S.2.2.2.2 gL_drills_X11_at rfl rfl rfl ynX11_at ⟨(Nat.le_of_ble_eq_true rfl), (Nat.le_of_ble_eq_true rfl)⟩) (dwV hE hP hS hb (ci := 11) rfl (dat12 dk_0)) rfl rfl hl.1 rfl (lv_room (Nat.le_of_ble_eq_true rfl)) dL_drills_371 ⟨by omega, by omega⟩) rfl hE hS hb hKs hK (fun H hP hS hb hK => ?_)
    refine lv_ldc (v := 200050) S.1 S.2.1 S.2.2.2.1 (S.2.2.2.2 (.constant RL 139 (200050)) (List.mem_of_getElem? (i := 7) rfl)) dL_drills_374 ?_
    refine lv_icmp_ne (tgt := 513) S.1 S.2.1 dL_drills_376 (by decide) (fun cq => ?_) (fun cq => ?_)
    · have h := d_f cq h
      cases h
    · have h := d_t cq h
      refine lv_aload_n S.1 S.2.1 dL_drills_379 rfl (lv_at hl 0 rfl) ?_
      refine lv_iconst (v := 2) S.1 S.2.1 dL_drills_380 (by decide) ?_
      refine lv_bipush (v := 10) S.1 S.2.1 dL_drills_381 (by decide) ?_
      refine lv_iconst (v := 2) S.1 S.2.1 dL_drills_383 (by decide) ?_
      obtain ⟨q12, hc9, h⟩ := d_b h
      rcases q12 with q12 | q12
      · have h := d_s1 h
        cases h
      obtain ⟨v11, m10⟩ := q12
      have h := d_s2 h
      have h := d_p2 h
      refine dwxi (vx_runV (As := [.int 2, .int 10, .int 2]) (rest := []) S (kX11_at l g hst hc9) (cwV 3 S.2.2.2.2 gL_drills_X11_at rfl rfl rfl ynX11_at ⟨(Nat.le_of_ble_eq_true rfl), (Nat.le_of_ble_eq_true rfl)⟩) (dwV hE hP hS hb (ci := 11) rfl (dat12 dk_0)) rfl rfl hl.1 rfl (lv_room (Nat.le_of_ble_eq_true rfl)) dL_drills_384 ⟨by omega, by omega⟩) rfl hE hS hb hKs hK (fun H hP hS hb hK => ?_)
      refine lv_if_ne (tgt := 513) S.1 S.2.1 dL_drills_387 (by decide) (fun cq => ?_) (fun cq => ?_)
      · have h := d_f cq h
        cases h
      · have h := d_t cq h
        refine lv_aload_n S.1 S.2.1 dL_drills_390 rfl (lv_at hl 0 rfl) ?_
        refine lv_iconst (v := 2) S.1 S.2.1 dL_drills_391 (by decide) ?_
        refine lv_iconst (v := 5) S.1 S.2.1 dL_drills_392 (by decide) ?_
        refine lv_iconst (v := 1) S.1 S.2.1 dL_drills_393 (by decide) ?_
        refine lv_iconst (v := 0) S.1 S.2.1 dL_drills_394 (by decide) ?_
        refine lv_iconst (v := 1) S.1 S.2.1 dL_drills_395 (by decide) ?_
        obtain ⟨m14, hc13, h⟩ := d_b h
        refine dwLi (vx_runS (As := [.ref (dad g 0), .int 2, .int 5, .int 1, .int 0, .int 1]) (rest := []) S (kL_fault l g hst hc13) (va_cwS 6 S.2.2.2.2 gL_drills_L_fault rfl rfl rfl ynL_fault ⟨(Nat.le_of_ble_eq_true rfl), (Nat.le_of_ble_eq_true rfl)⟩) (dwS hE hP hS hb) rfl rfl hl.1 rfl (lv_room (Nat.le_of_ble_eq_true rfl)) dL_drills_396 ⟨by omega, by omega⟩) hE hS hb hKs hK (fun H hP hS hb hK => ?_)
        refine lv_if_eq (tgt := 513) S.1 S.2.1 dL_drills_399 (by decide) (fun cq => ?_) (fun cq => ?_)
        · exact absurd cq (by decide)
        · refine lv_aload_n S.1 S.2.1 dL_drills_402 rfl (lv_at hl 0 rfl) ?_
          refine lv_iconst (v := 1) S.1 S.2.1 dL_drills_403 (by decide) ?_
          refine lv_iconst (v := 1) S.1 S.2.1 dL_drills_404 (by decide) ?_
          obtain ⟨q19, hc16, h⟩ := d_b h
          rcases q19 with q19 | q19
          · have h := d_s1 h
            cases h
          obtain ⟨v18, m17⟩ := q19
          have h := d_s2 h
          have h := d_p2 h
          refine dwxi (vx_runV (As := [.int 1, .int 1]) (rest := []) S (kX11_ill l g hst hc16) (cwV 2 S.2.2.2.2 gL_drills_X11_ill rfl rfl rfl ynX11_ill ⟨(Nat.le_of_ble_eq_true rfl), (Nat.le_of_ble_eq_true rfl)⟩) (dwV hE hP hS hb (ci := 11) rfl (dat12 dk_0)) rfl rfl hl.1 rfl (lv_room (Nat.le_of_ble_eq_true rfl)) dL_drills_405 ⟨by omega, by omega⟩) rfl hE hS hb hKs hK (fun H hP hS hb hK => ?_)
          refine lv_if_ne (tgt := 513) S.1 S.2.1 dL_drills_408 (by decide) (fun cq => ?_) (fun cq => ?_)
          · have h := d_f cq h
            cases h
          · have h := d_t cq h
            refine lv_aload_n S.1 S.2.1 dL_drills_411 rfl (lv_at hl 0 rfl) ?_
            refine lv_iconst (v := 2) S.1 S.2.1 dL_drills_412 (by decide) ?_
            refine lv_iconst (v := 5) S.1 S.2.1 dL_drills_413 (by decide) ?_
            refine lv_iconst (v := 1) S.1 S.2.1 dL_drills_414 (by decide) ?_
            refine lv_iconst (v := 0) S.1 S.2.1 dL_drills_415 (by decide) ?_
            refine lv_iconst (v := 2) S.1 S.2.1 dL_drills_416 (by decide) ?_
            obtain ⟨m21, hc20, h⟩ := d_b h
            refine dwLi (vx_runS (As := [.ref (dad g 0), .int 2, .int 5, .int 1, .int 0, .int 2]) (rest := []) S (kL_fault l g hst hc20) (va_cwS 6 S.2.2.2.2 gL_drills_L_fault rfl rfl rfl ynL_fault ⟨(Nat.le_of_ble_eq_true rfl), (Nat.le_of_ble_eq_true rfl)⟩) (dwS hE hP hS hb) rfl rfl hl.1 rfl (lv_room (Nat.le_of_ble_eq_true rfl)) dL_drills_417 ⟨by omega, by omega⟩) hE hS hb hKs hK (fun H hP hS hb hK => ?_)
            refine lv_if_eq (tgt := 513) S.1 S.2.1 dL_drills_420 (by decide) (fun cq => ?_) (fun cq => ?_)
            · exact absurd cq (by decide)
            · refine lv_aload_n S.1 S.2.1 dL_drills_423 rfl (lv_at hl 0 rfl) ?_
              refine lv_iconst (v := 3) S.1 S.2.1 dL_drills_424 (by decide) ?_
              refine lv_iconst (v := 0) S.1 S.2.1 dL_drills_425 (by decide) ?_
              refine lv_iconst (v := 1) S.1 S.2.1 dL_drills_426 (by decide) ?_
              refine lv_iconst (v := 0) S.1 S.2.1 dL_drills_427 (by decide) ?_
              refine lv_iconst (v := 0) S.1 S.2.1 dL_drills_428 (by decide) ?_
              obtain ⟨⟨v25, m24⟩, hc23, h⟩ := d_b h
              have h := d_p2 h
              refine dwLj (vx_runSX (As := [.ref (dad g 0), .int 3, .int 0, .int 1, .int 0, .int 0]) (rest := []) S (kL_act l g hst hc23) (vx_cwSW 6 S.2.2.2.2 gL_drills_L_act rfl rfl rfl ynL_act ⟨(Nat.le_of_ble_eq_true rfl), (Nat.le_of_ble_eq_true rfl)⟩) (dwS hE hP hS hb) rfl rfl hl.1 rfl (lv_room (Nat.le_of_ble_eq_true rfl)) dL_drills_429 ⟨by omega, by omega⟩) hE hS hb hKs hK (fun H hP hS hb hK => ?_)
              refine lv_lconst (v := 1) S.1 S.2.1 dL_drills_432 (by decide) ?_
              refine W.lcmp S.1 S.2.1 dL_drills_433 ?_
              refine lv_if_ne (tgt := 513) S.1 S.2.1 dL_drills_434 (by decide) (fun cq => ?_) (fun cq => ?_)
              · have h := d_f cq h
                cases h
              · have h := d_t cq h
                refine lv_aload_n S.1 S.2.1 dL_drills_437 rfl (lv_at hl 0 rfl) ?_
                refine lv_iconst (v := 1) S.1 S.2.1 dL_drills_438 (by decide) ?_
                refine lv_iconst (v := 1) S.1 S.2.1 dL_drills_439 (by decide) ?_
                obtain ⟨q29, hc26, h⟩ := d_b h
                rcases q29 with q29 | q29
                · have h := d_s1 h
                  cases h
                obtain ⟨v28, m27⟩ := q29
                have h := d_s2 h
                have h := d_p2 h
                refine dwxi (vx_runV (As := [.int 1, .int 1]) (rest := []) S (kX11_ill l g hst hc26) (cwV 2 S.2.2.2.2 gL_drills_X11_ill rfl rfl rfl ynX11_ill ⟨(Nat.le_of_ble_eq_true rfl), (Nat.le_of_ble_eq_true rfl)⟩) (dwV hE hP hS hb (ci := 11) rfl (dat12 dk_0)) rfl rfl hl.1 rfl (lv_room (Nat.le_of_ble_eq_true rfl)) dL_drills_440 ⟨by omega, by omega⟩) rfl hE hS hb hKs hK (fun H hP hS hb hK => ?_)
                refine lv_if_eq (tgt := 513) S.1 S.2.1 dL_drills_443 (by decide) (fun cq => ?_) (fun cq => ?_)
                · have h := d_t cq h
                  cases h
                · have h := d_f cq h
                  refine lv_aload_n S.1 S.2.1 dL_drills_446 rfl (lv_at hl 0 rfl) ?_
                  refine lv_iconst (v := 2) S.1 S.2.1 dL_drills_447 (by decide) ?_
                  refine lv_iconst (v := 5) S.1 S.2.1 dL_drills_448 (by decide) ?_
                  refine lv_iconst (v := 1) S.1 S.2.1 dL_drills_449 (by decide) ?_
                  refine lv_iconst (v := 0) S.1 S.2.1 dL_drills_450 (by decide) ?_
                  refine lv_iconst (v := 1) S.1 S.2.1 dL_drills_451 (by decide) ?_
                  obtain ⟨m31, hc30, h⟩ := d_b h
                  refine dwLi (vx_runS (As := [.ref (dad g 0), .int 2, .int 5, .int 1, .int 0, .int 1]) (rest := []) S (kL_fault l g hst hc30) (va_cwS 6 S.2.2.2.2 gL_drills_L_fault rfl rfl rfl ynL_fault ⟨(Nat.le_of_ble_eq_true rfl), (Nat.le_of_ble_eq_true rfl)⟩) (dwS hE hP hS hb) rfl rfl hl.1 rfl (lv_room (Nat.le_of_ble_eq_true rfl)) dL_drills_452 ⟨by omega, by omega⟩) hE hS hb hKs hK (fun H hP hS hb hK => ?_)
                  refine lv_if_eq (tgt := 513) S.1 S.2.1 dL_drills_455 (by decide) (fun cq => ?_) (fun cq => ?_)
                  · exact absurd cq (by decide)
                  · obtain rfl := Option.some.inj h
                    exact kk H ls _ _ (by omega) (by omega) hP hS hb hK (lv_sub hl [0] rfl)
def fL_drills458 (m : dM) : Option dM := (fL_act m 0 3 0 1 1 0).bind (fun q => dP2 q (fun v3 m2 => if (lg_cmp v3 1) = 0 then (fX11_ill m2 0 1 1).bind (fun q => dS q (fun _ => none) (fun q => dP2 q (fun v6 m5 => if v6 = 0 then (fL_act m5 0 3 0 (-1) 0 0).bind (fun q => dP2 q (fun v10 m9 => if (lg_cmp v10 1) = 0 then (fX11_ill m9 0 1 1).bind (fun q => dS q (fun _ => none) (fun q => dP2 q (fun v13 m12 => if v13 = 0 then (fX11_ill m12 0 1 0).bind (fun q => dS q (fun _ => none) (fun q => dP2 q (fun v17 m16 => if v17 = 0 then none else (fX11_part m16 0 0 10 240 0).bind (fun q => dS q (fun _ => none) (fun q => dP2 q (fun v21 m20 => if v21 = 3 then (fL_fault m20 3 1 0 0 (-1)).bind (fun m24 => (fX11_legs m24 0 0 40).bind (fun q => dS q (fun _ => none) (fun q => dP2 q (fun v28 m27 => if v28 = 14 then (fL_fault m27 3 1 0 2 (-1)).bind (fun m31 => some m31) else none)))) else none)))))) else none))) else none)) else none))) else none))
set_option maxHeartbeats 4000000 in
set_option maxRecDepth 100000 in
theorem kL_drills458 {p : Program} {l : Launch} {e : Env} {s : State} {mth : MethodId} {below : List Frame} {meth : Method} {c : Code} {g : dG} {Q : State → Prop} {H : Heap} {cells slots : Nat} {ls : Array Slot} {m m9 : dM} {K : Heap → Prop} (hst : l.stackTraces = false) (S : CallFix p mth c cL_drills 1 s (([] : List Value).toArray) wsL_drills RL) (hE : dEw g s) (hKs : ∀ H H1 : Heap, (∀ q, q < g.2.2.2 → H1[q]? = H[q]?) → K H → K H1) (hR : cells + 33 ≤ (headSpec wsL_drills (dDm 13 270 6141 39698)).room.cells ∧ slots + 198 ≤ (headSpec wsL_drills (dDm 13 270 6141 39698)).room.slots) (h : fL_drills458 m = some m9) (hP : va_P g.1 vwCl (dws g m) H) (hS : va_S (dAs s) s.heap H []) (hb : g.2.2.2 ≤ H.size) (hK : K H) (hl : lv_has ls 1 [(0, .ref (dad g 0))])
    (kk : ∀ (H : Heap) (ls : Array Slot) (cells2 slots2 : Nat), cells2 ≤ cells + 33 → slots2 ≤ slots + 198 → va_P g.1 vwCl (dws g m9) H → va_S (dAs s) s.heap H [] → g.2.2.2 ≤ H.size → K H → lv_has ls 1 [(0, .ref (dad g 0))] → W p l e (headSpec wsL_drills (dDm 13 270 6141 39698)).room s mth (([] : List Value).toArray) below meth c H [] cells2 slots2 Q (F0 mth 566 ls [])) : W p l e (headSpec wsL_drills (dDm 13 270 6141 39698)).room s mth (([] : List Value).toArray) below meth c H [] cells slots Q (F0 mth 458 ls []) := by
  obtain ⟨hR1, hR2⟩ := hR
  unfold fL_drills458 at h
  refine lv_aload_n S.1 S.2.1 dL_drills_458 rfl (lv_at hl 0 rfl) ?_
  refine lv_iconst (v := 3) S.1 S.2.1 dL_drills_459 (by decide) ?_
  refine lv_iconst (v := 0) S.1 S.2.1 dL_drills_460 (by decide) ?_
  refine lv_iconst (v := 1) S.1 S.2.1 dL_drills_461 (by decide) ?_
  refine lv_iconst (v := 1) S.1 S.2.1 dL_drills_462 (by decide) ?_
  refine lv_iconst (v := 0) S.1 S.2.1 dL_drills_463 (by decide) ?_
  obtain ⟨⟨v3, m2⟩, hc1, h⟩ := d_b h
  have h := d_p2 h
  refine dwLj (vx_runSX (As := [.ref (dad g 0), .int 3, .int 0, .int 1, .int 1, .int 0]) (rest := []) S (kL_act l g hst hc1) (vx_cwSW 6 S.2.2.2.2 gL_drills_L_act rfl rfl rfl ynL_act ⟨(Nat.le_of_ble_eq_true rfl), (Nat.le_of_ble_eq_true rfl)⟩) (dwS hE hP hS hb) rfl rfl hl.1 rfl (lv_room (Nat.le_of_ble_eq_true rfl)) dL_drills_464 ⟨by omega, by omega⟩) hE hS hb hKs hK (fun H hP hS hb hK => ?_)
  refine lv_lconst (v := 1) S.1 S.2.1 dL_drills_467 (by decide) ?_
  refine W.lcmp S.1 S.2.1 dL_drills_468 ?_
  refine lv_if_ne (tgt := 513) S.1 S.2.1 dL_drills_469 (by decide) (fun cq => ?_) (fun cq => ?_)
  · have h := d_f cq h
    cases h
  · have h := d_t cq h
    refine lv_aload_n S.1 S.2.1 dL_drills_472 rfl (lv_at hl 0 rfl) ?_
    refine lv_iconst (v := 1) S.1 S.2.1 dL_drills_473 (by decide) ?_
    refine lv_iconst (v := 1) S.1 S.2.1 dL_drills_474 (by decide) ?_
    obtain ⟨q7, hc4, h⟩ := d_b h
    rcases q7 with q7 | q7
    · have h := d_s1 h
      cases h
    obtain ⟨v6, m5⟩ := q7
    have h := d_s2 h
    have h := d_p2 h
    refine dwxi (vx_runV (As := [.int 1, .int 1]) (rest := []) S (kX11_ill l g hst hc4) (cwV 2 S.2.2.2.2 gL_drills_X11_ill rfl rfl rfl ynX11_ill ⟨(Nat.le_of_ble_eq_true rfl), (Nat.le_of_ble_eq_true rfl)⟩) (dwV hE hP hS hb (ci := 11) rfl (dat12 dk_0)) rfl rfl hl.1 rfl (lv_room (Nat.le_of_ble_eq_true rfl)) dL_drills_475 ⟨by omega, by omega⟩) rfl hE hS hb hKs hK (fun H hP hS hb hK => ?_)
    refine lv_if_ne (tgt := 513) S.1 S.2.1 dL_drills_478 (by decide) (fun cq => ?_) (fun cq => ?_)
    · have h := d_f cq h
      cases h
    · have h := d_t cq h
      refine lv_aload_n S.1 S.2.1 dL_drills_481 rfl (lv_at hl 0 rfl) ?_
      refine lv_iconst (v := 3) S.1 S.2.1 dL_drills_482 (by decide) ?_
      refine lv_iconst (v := 0) S.1 S.2.1 dL_drills_483 (by decide) ?_
      refine lv_iconst (v := (-1)) S.1 S.2.1 dL_drills_484 (by decide) ?_
      refine lv_iconst (v := 0) S.1 S.2.1 dL_drills_485 (by decide) ?_
      refine lv_iconst (v := 0) S.1 S.2.1 dL_drills_486 (by decide) ?_
      obtain ⟨⟨v10, m9⟩, hc8, h⟩ := d_b h
      have h := d_p2 h
      refine dwLj (vx_runSX (As := [.ref (dad g 0), .int 3, .int 0, .int (-1), .int 0, .int 0]) (rest := []) S (kL_act l g hst hc8) (vx_cwSW 6 S.2.2.2.2 gL_drills_L_act rfl rfl rfl ynL_act ⟨(Nat.le_of_ble_eq_true rfl), (Nat.le_of_ble_eq_true rfl)⟩) (dwS hE hP hS hb) rfl rfl hl.1 rfl (lv_room (Nat.le_of_ble_eq_true rfl)) dL_drills_487 ⟨by omega, by omega⟩) hE hS hb hKs hK (fun H hP hS hb hK => ?_)
      refine lv_lconst (v := 1) S.1 S.2.1 dL_drills_490 (by decide) ?_
      refine W.lcmp S.1 S.2.1 dL_drills_491 ?_
      refine lv_if_ne (tgt := 513) S.1 S.2.1 dL_drills_492 (by decide) (fun cq => ?_) (fun cq => ?_)
      · have h := d_f cq h
        cases h
      · have h := d_t cq h
        refine lv_aload_n S.1 S.2.1 dL_drills_495 rfl (lv_at hl 0 rfl) ?_
        refine lv_iconst (v := 1) S.1 S.2.1 dL_drills_496 (by decide) ?_
        refine lv_iconst (v := 1) S.1 S.2.1 dL_drills_497 (by decide) ?_
        obtain ⟨q14, hc11, h⟩ := d_b h
        rcases q14 with q14 | q14
        · have h := d_s1 h
          cases h
        obtain ⟨v13, m12⟩ := q14
        have h := d_s2 h
        have h := d_p2 h
        refine dwxi (vx_runV (As := [.int 1, .int 1]) (rest := []) S (kX11_ill l g hst hc11) (cwV 2 S.2.2.2.2 gL_drills_X11_ill rfl rfl rfl ynX11_ill ⟨(Nat.le_of_ble_eq_true rfl), (Nat.le_of_ble_eq_true rfl)⟩) (dwV hE hP hS hb (ci := 11) rfl (dat12 dk_0)) rfl rfl hl.1 rfl (lv_room (Nat.le_of_ble_eq_true rfl)) dL_drills_498 ⟨by omega, by omega⟩) rfl hE hS hb hKs hK (fun H hP hS hb hK => ?_)
        refine lv_if_ne (tgt := 513) S.1 S.2.1 dL_drills_501 (by decide) (fun cq => ?_) (fun cq => ?_)
        · have h := d_f cq h
          cases h
        · have h := d_t cq h
          refine lv_aload_n S.1 S.2.1 dL_drills_504 rfl (lv_at hl 0 rfl) ?_
          refine lv_iconst (v := 1) S.1 S.2.1 dL_drills_505 (by decide) ?_
          refine lv_iconst (v := 0) S.1 S.2.1 dL_drills_506 (by decide) ?_
          obtain ⟨q18, hc15, h⟩ := d_b h
          rcases q18 with q18 | q18
          · have h := d_s1 h
            cases h
          obtain ⟨v17, m16⟩ := q18
          have h := d_s2 h
          have h := d_p2 h
          refine dwxi (vx_runV (As := [.int 1, .int 0]) (rest := []) S (kX11_ill l g hst hc15) (cwV 2 S.2.2.2.2 gL_drills_X11_ill rfl rfl rfl ynX11_ill ⟨(Nat.le_of_ble_eq_true rfl), (Nat.le_of_ble_eq_true rfl)⟩) (dwV hE hP hS hb (ci := 11) rfl (dat12 dk_0)) rfl rfl hl.1 rfl (lv_room (Nat.le_of_ble_eq_true rfl)) dL_drills_507 ⟨by omega, by omega⟩) rfl hE hS hb hKs hK (fun H hP hS hb hK => ?_)
          refine lv_if_ne (tgt := 515) S.1 S.2.1 dL_drills_510 (by decide) (fun cq => ?_) (fun cq => ?_)
          · have h := d_f cq h
            refine lv_aload_n S.1 S.2.1 dL_drills_515 rfl (lv_at hl 0 rfl) ?_
            refine lv_iconst (v := 0) S.1 S.2.1 dL_drills_516 (by decide) ?_
            refine lv_bipush (v := 10) S.1 S.2.1 dL_drills_517 (by decide) ?_
            refine lv_sipush (v := 240) S.1 S.2.1 dL_drills_519 (by decide) ?_
            refine lv_iconst (v := 0) S.1 S.2.1 dL_drills_522 (by decide) ?_
            obtain ⟨q22, hc19, h⟩ := d_b h
            rcases q22 with q22 | q22
            · have h := d_s1 h
              cases h
            obtain ⟨v21, m20⟩ := q22
            have h := d_s2 h
            have h := d_p2 h
            refine dwxi (vx_runV (As := [.int 0, .int 10, .int 240, .int 0]) (rest := []) S (kX11_part l g hst hc19) (cwV 4 S.2.2.2.2 gL_drills_X11_part rfl rfl rfl ynX11_part ⟨(Nat.le_of_ble_eq_true rfl), (Nat.le_of_ble_eq_true rfl)⟩) (dwV hE hP hS hb (ci := 11) rfl (dat12 dk_0)) rfl rfl hl.1 rfl (lv_room (Nat.le_of_ble_eq_true rfl)) dL_drills_523 ⟨by omega, by omega⟩) rfl hE hS hb hKs hK (fun H hP hS hb hK => ?_)
            refine lv_iconst (v := 3) S.1 S.2.1 dL_drills_526 (by decide) ?_
            refine lv_icmp_ne (tgt := 616) S.1 S.2.1 dL_drills_527 (by decide) (fun cq => ?_) (fun cq => ?_)
            · have h := d_f cq h
              cases h
            · have h := d_t cq h
              refine lv_aload_n S.1 S.2.1 dL_drills_530 rfl (lv_at hl 0 rfl) ?_
              refine lv_iconst (v := 3) S.1 S.2.1 dL_drills_531 (by decide) ?_
              refine lv_iconst (v := 1) S.1 S.2.1 dL_drills_532 (by decide) ?_
              refine lv_iconst (v := 0) S.1 S.2.1 dL_drills_533 (by decide) ?_
              refine lv_iconst (v := 0) S.1 S.2.1 dL_drills_534 (by decide) ?_
              refine lv_iconst (v := (-1)) S.1 S.2.1 dL_drills_535 (by decide) ?_
              obtain ⟨m24, hc23, h⟩ := d_b h
              refine dwLi (vx_runS (As := [.ref (dad g 0), .int 3, .int 1, .int 0, .int 0, .int (-1)]) (rest := []) S (kL_fault l g hst hc23) (va_cwS 6 S.2.2.2.2 gL_drills_L_fault rfl rfl rfl ynL_fault ⟨(Nat.le_of_ble_eq_true rfl), (Nat.le_of_ble_eq_true rfl)⟩) (dwS hE hP hS hb) rfl rfl hl.1 rfl (lv_room (Nat.le_of_ble_eq_true rfl)) dL_drills_536 ⟨by omega, by omega⟩) hE hS hb hKs hK (fun H hP hS hb hK => ?_)
              refine lv_if_eq (tgt := 616) S.1 S.2.1 dL_drills_539 (by decide) (fun cq => ?_) (fun cq => ?_)
              · exact absurd cq (by decide)
              · refine lv_aload_n S.1 S.2.1 dL_drills_542 rfl (lv_at hl 0 rfl) ?_
                refine lv_iconst (v := 0) S.1 S.2.1 dL_drills_543 (by decide) ?_
                refine lv_bipush (v := 40) S.1 S.2.1 dL_drills_544 (by decide) ?_
                obtain ⟨q29, hc26, h⟩ := d_b h
                rcases q29 with q29 | q29
                · have h := d_s1 h
                  cases h
                obtain ⟨v28, m27⟩ := q29
                have h := d_s2 h
                have h := d_p2 h
                refine dwxi (vx_runV (As := [.int 0, .int 40]) (rest := []) S (kX11_legs l g hst hc26) (cwV 2 S.2.2.2.2 gL_drills_X11_legs rfl rfl rfl ynX11_legs ⟨(Nat.le_of_ble_eq_true rfl), (Nat.le_of_ble_eq_true rfl)⟩) (dwV hE hP hS hb (ci := 11) rfl (dat12 dk_0)) rfl rfl hl.1 rfl (lv_room (Nat.le_of_ble_eq_true rfl)) dL_drills_546 ⟨by omega, by omega⟩) rfl hE hS hb hKs hK (fun H hP hS hb hK => ?_)
                refine lv_bipush (v := 14) S.1 S.2.1 dL_drills_549 (by decide) ?_
                refine lv_icmp_ne (tgt := 616) S.1 S.2.1 dL_drills_551 (by decide) (fun cq => ?_) (fun cq => ?_)
                · have h := d_f cq h
                  cases h
                · have h := d_t cq h
                  refine lv_aload_n S.1 S.2.1 dL_drills_554 rfl (lv_at hl 0 rfl) ?_
                  refine lv_iconst (v := 3) S.1 S.2.1 dL_drills_555 (by decide) ?_
                  refine lv_iconst (v := 1) S.1 S.2.1 dL_drills_556 (by decide) ?_
                  refine lv_iconst (v := 0) S.1 S.2.1 dL_drills_557 (by decide) ?_
                  refine lv_iconst (v := 2) S.1 S.2.1 dL_drills_558 (by decide) ?_
                  refine lv_iconst (v := (-1)) S.1 S.2.1 dL_drills_559 (by decide) ?_
                  obtain ⟨m31, hc30, h⟩ := d_b h
                  refine dwLi (vx_runS (As := [.ref (dad g 0), .int 3, .int 1, .int 0, .int 2, .int (-1)]) (rest := []) S (kL_fault l g hst hc30) (va_cwS 6 S.2.2.2.2 gL_drills_L_fault rfl rfl rfl ynL_fault ⟨(Nat.le_of_ble_eq_true rfl), (Nat.le_of_ble_eq_true rfl)⟩) (dwS hE hP hS hb) rfl rfl hl.1 rfl (lv_room (Nat.le_of_ble_eq_true rfl)) dL_drills_560 ⟨by omega, by omega⟩) hE hS hb hKs hK (fun H hP hS hb hK => ?_)
                  refine lv_if_eq (tgt := 616) S.1 S.2.1 dL_drills_563 (by decide) (fun cq => ?_) (fun cq => ?_)
                  · exact absurd cq (by decide)
                  · obtain rfl := Option.some.inj h
                    exact kk H ls _ _ (by omega) (by omega) hP hS hb hK (lv_sub hl [0] rfl)
          · have h := d_t cq h
            cases h
def fL_drills566 (m : dM) : Option dM := (fL_act m 0 8 3 0 20 240).bind (fun q => dP2 q (fun v3 m2 => if (lg_cmp v3 1) = 0 then (fX11_place m2 0 3 0).bind (fun q => dS q (fun _ => none) (fun q => dP2 q (fun v6 m5 => if v6 = 2 then (fL_fault m5 3 (-1) (-1) (-1) (-1)).bind (fun m9 => (fX11_walking m9 0 3).bind (fun q => dS q (fun _ => none) (fun q => dP2 q (fun v13 m12 => if (lg_cmp v13 0) = 0 then (fL_act m12 0 8 0 3 4 60).bind (fun q => dP2 q (fun v17 m16 => if (lg_cmp v17 1) = 0 then (fX11_at m16 0 0 0 2).bind (fun q => dS q (fun _ => none) (fun q => dP2 q (fun v20 m19 => if v20 = 20030 then (fX11_place m19 0 1 0).bind (fun q => dS q (fun _ => none) (fun q => dP2 q (fun v24 m23 => if v24 = 2 then (fX11_walking m23 0 1).bind (fun q => dS q (fun _ => none) (fun q => dP2 q (fun v28 m27 => if (lg_cmp v28 8325) = 0 then (fX11_place m27 0 1 1).bind (fun q => dS q (fun _ => none) (fun q => dP2 q (fun v32 m31 => if v32 = 0 then some m31 else none))) else none))) else none))) else none))) else none)) else none)))) else none))) else none))
set_option maxHeartbeats 4000000 in
set_option maxRecDepth 100000 in
theorem kL_drills566 {p : Program} {l : Launch} {e : Env} {s : State} {mth : MethodId} {below : List Frame} {meth : Method} {c : Code} {g : dG} {Q : State → Prop} {H : Heap} {cells slots : Nat} {ls : Array Slot} {m m9 : dM} {K : Heap → Prop} (hst : l.stackTraces = false) (S : CallFix p mth c cL_drills 1 s (([] : List Value).toArray) wsL_drills RL) (hE : dEw g s) (hKs : ∀ H H1 : Heap, (∀ q, q < g.2.2.2 → H1[q]? = H[q]?) → K H → K H1) (hR : cells + 27 ≤ (headSpec wsL_drills (dDm 13 270 6141 39698)).room.cells ∧ slots + 162 ≤ (headSpec wsL_drills (dDm 13 270 6141 39698)).room.slots) (h : fL_drills566 m = some m9) (hP : va_P g.1 vwCl (dws g m) H) (hS : va_S (dAs s) s.heap H []) (hb : g.2.2.2 ≤ H.size) (hK : K H) (hl : lv_has ls 1 [(0, .ref (dad g 0))])
    (kk : ∀ (H : Heap) (ls : Array Slot) (cells2 slots2 : Nat), cells2 ≤ cells + 27 → slots2 ≤ slots + 162 → va_P g.1 vwCl (dws g m9) H → va_S (dAs s) s.heap H [] → g.2.2.2 ≤ H.size → K H → lv_has ls 1 [(0, .ref (dad g 0))] → W p l e (headSpec wsL_drills (dDm 13 270 6141 39698)).room s mth (([] : List Value).toArray) below meth c H [] cells2 slots2 Q (F0 mth 678 ls [])) : W p l e (headSpec wsL_drills (dDm 13 270 6141 39698)).room s mth (([] : List Value).toArray) below meth c H [] cells slots Q (F0 mth 566 ls []) := by
  obtain ⟨hR1, hR2⟩ := hR
  unfold fL_drills566 at h
  refine lv_aload_n S.1 S.2.1 dL_drills_566 rfl (lv_at hl 0 rfl) ?_
  refine lv_bipush (v := 8) S.1 S.2.1 dL_drills_567 (by decide) ?_
  refine lv_iconst (v := 3) S.1 S.2.1 dL_drills_569 (by decide) ?_
  refine lv_iconst (v := 0) S.1 S.2.1 dL_drills_570 (by decide) ?_
  refine lv_bipush (v := 20) S.1 S.2.1 dL_drills_571 (by decide) ?_
  refine lv_sipush (v := 240) S.1 S.2.1 dL_drills_573 (by decide) ?_
  obtain ⟨⟨v3, m2⟩, hc1, h⟩ := d_b h
  have h := d_p2 h
  refine dwLj (vx_runSX (As := [.ref (dad g 0), .int 8, .int 3, .int 0, .int 20, .int 240]) (rest := []) S (kL_act l g hst hc1) (vx_cwSW 6 S.2.2.2.2 gL_drills_L_act rfl rfl rfl ynL_act ⟨(Nat.le_of_ble_eq_true rfl), (Nat.le_of_ble_eq_true rfl)⟩) (dwS hE hP hS hb) rfl rfl hl.1 rfl (lv_room (Nat.le_of_ble_eq_true rfl)) dL_drills_576 ⟨by omega, by omega⟩) hE hS hb hKs hK (fun H hP hS hb hK => ?_)
  refine lv_lconst (v := 1) S.1 S.2.1 dL_drills_579 (by decide) ?_
  refine W.lcmp S.1 S.2.1 dL_drills_580 ?_
  refine lv_if_ne (tgt := 616) S.1 S.2.1 dL_drills_581 (by decide) (fun cq => ?_) (fun cq => ?_)
  · have h := d_f cq h
    cases h
  · have h := d_t cq h
    refine lv_aload_n S.1 S.2.1 dL_drills_584 rfl (lv_at hl 0 rfl) ?_
    refine lv_iconst (v := 3) S.1 S.2.1 dL_drills_585 (by decide) ?_
    refine lv_iconst (v := 0) S.1 S.2.1 dL_drills_586 (by decide) ?_
    obtain ⟨q7, hc4, h⟩ := d_b h
    rcases q7 with q7 | q7
    · have h := d_s1 h
      cases h
    obtain ⟨v6, m5⟩ := q7
    have h := d_s2 h
    have h := d_p2 h
    refine dwxi (vx_runV (As := [.int 3, .int 0]) (rest := []) S (kX11_place l g hst hc4) (cwV 2 S.2.2.2.2 gL_drills_X11_place rfl rfl rfl ynX11_place ⟨(Nat.le_of_ble_eq_true rfl), (Nat.le_of_ble_eq_true rfl)⟩) (dwV hE hP hS hb (ci := 11) rfl (dat12 dk_0)) rfl rfl hl.1 rfl (lv_room (Nat.le_of_ble_eq_true rfl)) dL_drills_587 ⟨by omega, by omega⟩) rfl hE hS hb hKs hK (fun H hP hS hb hK => ?_)
    refine lv_iconst (v := 2) S.1 S.2.1 dL_drills_590 (by decide) ?_
    refine lv_icmp_ne (tgt := 616) S.1 S.2.1 dL_drills_591 (by decide) (fun cq => ?_) (fun cq => ?_)
    · have h := d_f cq h
      cases h
    · have h := d_t cq h
      refine lv_aload_n S.1 S.2.1 dL_drills_594 rfl (lv_at hl 0 rfl) ?_
      refine lv_iconst (v := 3) S.1 S.2.1 dL_drills_595 (by decide) ?_
      refine lv_iconst (v := (-1)) S.1 S.2.1 dL_drills_596 (by decide) ?_
      refine lv_iconst (v := (-1)) S.1 S.2.1 dL_drills_597 (by decide) ?_
      refine lv_iconst (v := (-1)) S.1 S.2.1 dL_drills_598 (by decide) ?_
      refine lv_iconst (v := (-1)) S.1 S.2.1 dL_drills_599 (by decide) ?_
      obtain ⟨m9, hc8, h⟩ := d_b h
      refine dwLi (vx_runS (As := [.ref (dad g 0), .int 3, .int (-1), .int (-1), .int (-1), .int (-1)]) (rest := []) S (kL_fault l g hst hc8) (va_cwS 6 S.2.2.2.2 gL_drills_L_fault rfl rfl rfl ynL_fault ⟨(Nat.le_of_ble_eq_true rfl), (Nat.le_of_ble_eq_true rfl)⟩) (dwS hE hP hS hb) rfl rfl hl.1 rfl (lv_room (Nat.le_of_ble_eq_true rfl)) dL_drills_600 ⟨by omega, by omega⟩) hE hS hb hKs hK (fun H hP hS hb hK => ?_)
      refine lv_if_eq (tgt := 616) S.1 S.2.1 dL_drills_603 (by decide) (fun cq => ?_) (fun cq => ?_)
      · exact absurd cq (by decide)
      · refine lv_aload_n S.1 S.2.1 dL_drills_606 rfl (lv_at hl 0 rfl) ?_
        refine lv_iconst (v := 3) S.1 S.2.1 dL_drills_607 (by decide) ?_
        obtain ⟨q14, hc11, h⟩ := d_b h
        rcases q14 with q14 | q14
        · have h := d_s1 h
          cases h
        obtain ⟨v13, m12⟩ := q14
        have h := d_s2 h
        have h := d_p2 h
        refine dwxj (vx_runV (As := [.int 3]) (rest := []) S (kX11_walking l g hst hc11) (cwV 1 S.2.2.2.2 gL_drills_X11_walking rfl rfl rfl ynX11_walking ⟨(Nat.le_of_ble_eq_true rfl), (Nat.le_of_ble_eq_true rfl)⟩) (dwV hE hP hS hb (ci := 11) rfl (dat12 dk_0)) rfl rfl hl.1 rfl (lv_room (Nat.le_of_ble_eq_true rfl)) dL_drills_608 ⟨by omega, by omega⟩) rfl hE hS hb hKs hK (fun H hP hS hb hK => ?_)
        refine lv_lconst (v := 0) S.1 S.2.1 dL_drills_611 (by decide) ?_
        refine W.lcmp S.1 S.2.1 dL_drills_612 ?_
        refine lv_if_eq (tgt := 618) S.1 S.2.1 dL_drills_613 (by decide) (fun cq => ?_) (fun cq => ?_)
        · have h := d_t cq h
          refine lv_aload_n S.1 S.2.1 dL_drills_618 rfl (lv_at hl 0 rfl) ?_
          refine lv_bipush (v := 8) S.1 S.2.1 dL_drills_619 (by decide) ?_
          refine lv_iconst (v := 0) S.1 S.2.1 dL_drills_621 (by decide) ?_
          refine lv_iconst (v := 3) S.1 S.2.1 dL_drills_622 (by decide) ?_
          refine lv_iconst (v := 4) S.1 S.2.1 dL_drills_623 (by decide) ?_
          refine lv_bipush (v := 60) S.1 S.2.1 dL_drills_624 (by decide) ?_
          obtain ⟨⟨v17, m16⟩, hc15, h⟩ := d_b h
          have h := d_p2 h
          refine dwLj (vx_runSX (As := [.ref (dad g 0), .int 8, .int 0, .int 3, .int 4, .int 60]) (rest := []) S (kL_act l g hst hc15) (vx_cwSW 6 S.2.2.2.2 gL_drills_L_act rfl rfl rfl ynL_act ⟨(Nat.le_of_ble_eq_true rfl), (Nat.le_of_ble_eq_true rfl)⟩) (dwS hE hP hS hb) rfl rfl hl.1 rfl (lv_room (Nat.le_of_ble_eq_true rfl)) dL_drills_626 ⟨by omega, by omega⟩) hE hS hb hKs hK (fun H hP hS hb hK => ?_)
          refine lv_lconst (v := 1) S.1 S.2.1 dL_drills_629 (by decide) ?_
          refine W.lcmp S.1 S.2.1 dL_drills_630 ?_
          refine lv_if_ne (tgt := 838) S.1 S.2.1 dL_drills_631 (by decide) (fun cq => ?_) (fun cq => ?_)
          · have h := d_f cq h
            cases h
          · have h := d_t cq h
            refine lv_aload_n S.1 S.2.1 dL_drills_634 rfl (lv_at hl 0 rfl) ?_
            refine lv_iconst (v := 0) S.1 S.2.1 dL_drills_635 (by decide) ?_
            refine lv_iconst (v := 0) S.1 S.2.1 dL_drills_636 (by decide) ?_
            refine lv_iconst (v := 2) S.1 S.2.1 dL_drills_637 (by decide) ?_
            obtain ⟨q21, hc18, h⟩ := d_b h
            rcases q21 with q21 | q21
            · have h := d_s1 h
              cases h
            obtain ⟨v20, m19⟩ := q21
            have h := d_s2 h
            have h := d_p2 h
            refine dwxi (vx_runV (As := [.int 0, .int 0, .int 2]) (rest := []) S (kX11_at l g hst hc18) (cwV 3 S.2.2.2.2 gL_drills_X11_at rfl rfl rfl ynX11_at ⟨(Nat.le_of_ble_eq_true rfl), (Nat.le_of_ble_eq_true rfl)⟩) (dwV hE hP hS hb (ci := 11) rfl (dat12 dk_0)) rfl rfl hl.1 rfl (lv_room (Nat.le_of_ble_eq_true rfl)) dL_drills_638 ⟨by omega, by omega⟩) rfl hE hS hb hKs hK (fun H hP hS hb hK => ?_)
            refine lv_sipush (v := 20030) S.1 S.2.1 dL_drills_641 (by decide) ?_
            refine lv_icmp_ne (tgt := 838) S.1 S.2.1 dL_drills_644 (by decide) (fun cq => ?_) (fun cq => ?_)
            · have h := d_f cq h
              cases h
            · have h := d_t cq h
              refine lv_aload_n S.1 S.2.1 dL_drills_647 rfl (lv_at hl 0 rfl) ?_
              refine lv_iconst (v := 1) S.1 S.2.1 dL_drills_648 (by decide) ?_
              refine lv_iconst (v := 0) S.1 S.2.1 dL_drills_649 (by decide) ?_
              obtain ⟨q25, hc22, h⟩ := d_b h
              rcases q25 with q25 | q25
              · have h := d_s1 h
                cases h
              obtain ⟨v24, m23⟩ := q25
              have h := d_s2 h
              have h := d_p2 h
              refine dwxi (vx_runV (As := [.int 1, .int 0]) (rest := []) S (kX11_place l g hst hc22) (cwV 2 S.2.2.2.2 gL_drills_X11_place rfl rfl rfl ynX11_place ⟨(Nat.le_of_ble_eq_true rfl), (Nat.le_of_ble_eq_true rfl)⟩) (dwV hE hP hS hb (ci := 11) rfl (dat12 dk_0)) rfl rfl hl.1 rfl (lv_room (Nat.le_of_ble_eq_true rfl)) dL_drills_650 ⟨by omega, by omega⟩) rfl hE hS hb hKs hK (fun H hP hS hb hK => ?_)
              refine lv_iconst (v := 2) S.1 S.2.1 dL_drills_653 (by decide) ?_
              refine lv_icmp_ne (tgt := 838) S.1 S.2.1 dL_drills_654 (by decide) (fun cq => ?_) (fun cq => ?_)
              · have h := d_f cq h
                cases h
              · have h := d_t cq h
                refine lv_aload_n S.1 S.2.1 dL_drills_657 rfl (lv_at hl 0 rfl) ?_
                refine lv_iconst (v := 1) S.1 S.2.1 dL_drills_658 (by decide) ?_
                obtain ⟨q29, hc26, h⟩ := d_b h
                rcases q29 with q29 | q29
                · have h := d_s1 h
                  cases h
                obtain ⟨v28, m27⟩ := q29
                have h := d_s2 h
                have h := d_p2 h
                refine dwxj (vx_runV (As := [.int 1]) (rest := []) S (kX11_walking l g hst hc26) (cwV 1 S.2.2.2.2 gL_drills_X11_walking rfl rfl rfl ynX11_walking ⟨(Nat.le_of_ble_eq_true rfl), (Nat.le_of_ble_eq_true rfl)⟩) (dwV hE hP hS hb (ci := 11) rfl (dat12 dk_0)) rfl rfl hl.1 rfl (lv_room (Nat.le_of_ble_eq_true rfl)) dL_drills_659 ⟨by omega, by omega⟩) rfl hE hS hb hKs hK (fun H hP hS hb hK => ?_)
                refine lv_ldc2 (v := 8325) S.1 S.2.1 S.2.2.2.1 (S.2.2.2.2 (.constantLong RL 146 (8325)) (List.mem_of_getElem? (i := 10) rfl)) dL_drills_662 ?_
                refine W.lcmp S.1 S.2.1 dL_drills_665 ?_
                refine lv_if_ne (tgt := 838) S.1 S.2.1 dL_drills_666 (by decide) (fun cq => ?_) (fun cq => ?_)
                · have h := d_f cq h
                  cases h
                · have h := d_t cq h
                  refine lv_aload_n S.1 S.2.1 dL_drills_669 rfl (lv_at hl 0 rfl) ?_
                  refine lv_iconst (v := 1) S.1 S.2.1 dL_drills_670 (by decide) ?_
                  refine lv_iconst (v := 1) S.1 S.2.1 dL_drills_671 (by decide) ?_
                  obtain ⟨q33, hc30, h⟩ := d_b h
                  rcases q33 with q33 | q33
                  · have h := d_s1 h
                    cases h
                  obtain ⟨v32, m31⟩ := q33
                  have h := d_s2 h
                  have h := d_p2 h
                  refine dwxi (vx_runV (As := [.int 1, .int 1]) (rest := []) S (kX11_place l g hst hc30) (cwV 2 S.2.2.2.2 gL_drills_X11_place rfl rfl rfl ynX11_place ⟨(Nat.le_of_ble_eq_true rfl), (Nat.le_of_ble_eq_true rfl)⟩) (dwV hE hP hS hb (ci := 11) rfl (dat12 dk_0)) rfl rfl hl.1 rfl (lv_room (Nat.le_of_ble_eq_true rfl)) dL_drills_672 ⟨by omega, by omega⟩) rfl hE hS hb hKs hK (fun H hP hS hb hK => ?_)
                  refine lv_if_ne (tgt := 838) S.1 S.2.1 dL_drills_675 (by decide) (fun cq => ?_) (fun cq => ?_)
                  · have h := d_f cq h
                    cases h
                  · have h := d_t cq h
                    obtain rfl := Option.some.inj h
                    exact kk H ls _ _ (by omega) (by omega) hP hS hb hK (lv_sub hl [0] rfl)
        · have h := d_f cq h
          cases h
def fL_drills678 (m : dM) : Option dM := (fX11_place m 0 1 2).bind (fun q => dS q (fun _ => none) (fun q => dP2 q (fun v3 m2 => if v3 = 1 then (fX11_lasts m2 0).bind (fun v7 => if v7 = 190 then (fX11_part m2 0 4 64 60 0).bind (fun q => dS q (fun _ => none) (fun q => dP2 q (fun v10 m9 => if v10 = 4 then (fX11_at m9 0 4 64 1).bind (fun q => dS q (fun _ => none) (fun q => dP2 q (fun v14 m13 => if v14 = 980110 then (fX11_at m13 0 4 64 2).bind (fun q => dS q (fun _ => none) (fun q => dP2 q (fun v18 m17 => if v18 = 1020110 then (fX11_part m17 0 2 64 60 1).bind (fun q => dS q (fun _ => none) (fun q => dP2 q (fun v22 m21 => if v22 = 5 then (fX11_place m21 0 5 0).bind (fun q => dS q (fun _ => none) (fun q => dP2 q (fun v26 m25 => if v26 = 1 then (fX11_place m25 0 5 1).bind (fun q => dS q (fun _ => none) (fun q => dP2 q (fun v30 m29 => if v30 = 2 then (fX11_at m29 0 5 64 0).bind (fun q => dS q (fun _ => none) (fun q => dP2 q (fun v34 m33 => if v34 = 198000 then some m33 else none))) else none))) else none))) else none))) else none))) else none))) else none))) else none) else none)))
set_option maxHeartbeats 4000000 in
set_option maxRecDepth 100000 in
theorem kL_drills678 {p : Program} {l : Launch} {e : Env} {s : State} {mth : MethodId} {below : List Frame} {meth : Method} {c : Code} {g : dG} {Q : State → Prop} {H : Heap} {cells slots : Nat} {ls : Array Slot} {m m9 : dM} {K : Heap → Prop} (hst : l.stackTraces = false) (S : CallFix p mth c cL_drills 1 s (([] : List Value).toArray) wsL_drills RL) (hE : dEw g s) (hKs : ∀ H H1 : Heap, (∀ q, q < g.2.2.2 → H1[q]? = H[q]?) → K H → K H1) (hR : cells + 23 ≤ (headSpec wsL_drills (dDm 13 270 6141 39698)).room.cells ∧ slots + 138 ≤ (headSpec wsL_drills (dDm 13 270 6141 39698)).room.slots) (h : fL_drills678 m = some m9) (hP : va_P g.1 vwCl (dws g m) H) (hS : va_S (dAs s) s.heap H []) (hb : g.2.2.2 ≤ H.size) (hK : K H) (hl : lv_has ls 1 [(0, .ref (dad g 0))])
    (kk : ∀ (H : Heap) (ls : Array Slot) (cells2 slots2 : Nat), cells2 ≤ cells + 23 → slots2 ≤ slots + 138 → va_P g.1 vwCl (dws g m9) H → va_S (dAs s) s.heap H [] → g.2.2.2 ≤ H.size → K H → lv_has ls 1 [(0, .ref (dad g 0))] → W p l e (headSpec wsL_drills (dDm 13 270 6141 39698)).room s mth (([] : List Value).toArray) below meth c H [] cells2 slots2 Q (F0 mth 785 ls [])) : W p l e (headSpec wsL_drills (dDm 13 270 6141 39698)).room s mth (([] : List Value).toArray) below meth c H [] cells slots Q (F0 mth 678 ls []) := by
  obtain ⟨hR1, hR2⟩ := hR
  unfold fL_drills678 at h
  refine lv_aload_n S.1 S.2.1 dL_drills_678 rfl (lv_at hl 0 rfl) ?_
  refine lv_iconst (v := 1) S.1 S.2.1 dL_drills_679 (by decide) ?_
  refine lv_iconst (v := 2) S.1 S.2.1 dL_drills_680 (by decide) ?_
  obtain ⟨q4, hc1, h⟩ := d_b h
  rcases q4 with q4 | q4
  · have h := d_s1 h
    cases h
  obtain ⟨v3, m2⟩ := q4
  have h := d_s2 h
  have h := d_p2 h
  refine dwxi (vx_runV (As := [.int 1, .int 2]) (rest := []) S (kX11_place l g hst hc1) (cwV 2 S.2.2.2.2 gL_drills_X11_place rfl rfl rfl ynX11_place ⟨(Nat.le_of_ble_eq_true rfl), (Nat.le_of_ble_eq_true rfl)⟩) (dwV hE hP hS hb (ci := 11) rfl (dat12 dk_0)) rfl rfl hl.1 rfl (lv_room (Nat.le_of_ble_eq_true rfl)) dL_drills_681 ⟨by omega, by omega⟩) rfl hE hS hb hKs hK (fun H hP hS hb hK => ?_)
  refine lv_iconst (v := 1) S.1 S.2.1 dL_drills_684 (by decide) ?_
  refine lv_icmp_ne (tgt := 838) S.1 S.2.1 dL_drills_685 (by decide) (fun cq => ?_) (fun cq => ?_)
  · have h := d_f cq h
    cases h
  · have h := d_t cq h
    refine lv_aload_n S.1 S.2.1 dL_drills_688 rfl (lv_at hl 0 rfl) ?_
    obtain ⟨v7, hc5, h⟩ := d_b h
    refine dwi (va_runV (As := []) (rest := []) S (kX11_lasts l g hc5) (cwV 0 S.2.2.2.2 gL_drills_X11_lasts rfl rfl rfl ynX11_lasts ⟨(Nat.le_of_ble_eq_true rfl), (Nat.le_of_ble_eq_true rfl)⟩) (dwV hE hP hS hb (ci := 11) rfl (dat12 dk_0)) rfl rfl hl.1 rfl (lv_room (Nat.le_of_ble_eq_true rfl)) dL_drills_689 ⟨by omega, by omega⟩) hE hS hb hKs hK (fun H hP hS hb hK => ?_)
    refine lv_sipush (v := 190) S.1 S.2.1 dL_drills_692 (by decide) ?_
    refine lv_icmp_ne (tgt := 838) S.1 S.2.1 dL_drills_695 (by decide) (fun cq => ?_) (fun cq => ?_)
    · have h := d_f cq h
      cases h
    · have h := d_t cq h
      refine lv_aload_n S.1 S.2.1 dL_drills_698 rfl (lv_at hl 0 rfl) ?_
      refine lv_iconst (v := 4) S.1 S.2.1 dL_drills_699 (by decide) ?_
      refine lv_bipush (v := 64) S.1 S.2.1 dL_drills_700 (by decide) ?_
      refine lv_bipush (v := 60) S.1 S.2.1 dL_drills_702 (by decide) ?_
      refine lv_iconst (v := 0) S.1 S.2.1 dL_drills_704 (by decide) ?_
      obtain ⟨q11, hc8, h⟩ := d_b h
      rcases q11 with q11 | q11
      · have h := d_s1 h
        cases h
      obtain ⟨v10, m9⟩ := q11
      have h := d_s2 h
      have h := d_p2 h
      refine dwxi (vx_runV (As := [.int 4, .int 64, .int 60, .int 0]) (rest := []) S (kX11_part l g hst hc8) (cwV 4 S.2.2.2.2 gL_drills_X11_part rfl rfl rfl ynX11_part ⟨(Nat.le_of_ble_eq_true rfl), (Nat.le_of_ble_eq_true rfl)⟩) (dwV hE hP hS hb (ci := 11) rfl (dat12 dk_0)) rfl rfl hl.1 rfl (lv_room (Nat.le_of_ble_eq_true rfl)) dL_drills_705 ⟨by omega, by omega⟩) rfl hE hS hb hKs hK (fun H hP hS hb hK => ?_)
      refine lv_iconst (v := 4) S.1 S.2.1 dL_drills_708 (by decide) ?_
      refine lv_icmp_ne (tgt := 838) S.1 S.2.1 dL_drills_709 (by decide) (fun cq => ?_) (fun cq => ?_)
      · have h := d_f cq h
        cases h
      · have h := d_t cq h
        refine lv_aload_n S.1 S.2.1 dL_drills_712 rfl (lv_at hl 0 rfl) ?_
        refine lv_iconst (v := 4) S.1 S.2.1 dL_drills_713 (by decide) ?_
        refine lv_bipush (v := 64) S.1 S.2.1 dL_drills_714 (by decide) ?_
        refine lv_iconst (v := 1) S.1 S.2.1 dL_drills_716 (by decide) ?_
        obtain ⟨q15, hc12, h⟩ := d_b h
        rcases q15 with q15 | q15
        · have h := d_s1 h
          cases h
        obtain ⟨v14, m13⟩ := q15
        have h := d_s2 h
        have h := d_p2 h
        refine dwxi (vx_runV (As := [.int 4, .int 64, .int 1]) (rest := []) S (kX11_at l g hst hc12) (cwV 3 S.2.2.2.2 gL_drills_X11_at rfl rfl rfl ynX11_at ⟨(Nat.le_of_ble_eq_true rfl), (Nat.le_of_ble_eq_true rfl)⟩) (dwV hE hP hS hb (ci := 11) rfl (dat12 dk_0)) rfl rfl hl.1 rfl (lv_room (Nat.le_of_ble_eq_true rfl)) dL_drills_717 ⟨by omega, by omega⟩) rfl hE hS hb hKs hK (fun H hP hS hb hK => ?_)
        refine lv_ldc (v := 980110) S.1 S.2.1 S.2.2.2.1 (S.2.2.2.2 (.constant RL 148 (980110)) (List.mem_of_getElem? (i := 11) rfl)) dL_drills_720 ?_
        refine lv_icmp_ne (tgt := 838) S.1 S.2.1 dL_drills_722 (by decide) (fun cq => ?_) (fun cq => ?_)
        · have h := d_f cq h
          cases h
        · have h := d_t cq h
          refine lv_aload_n S.1 S.2.1 dL_drills_725 rfl (lv_at hl 0 rfl) ?_
          refine lv_iconst (v := 4) S.1 S.2.1 dL_drills_726 (by decide) ?_
          refine lv_bipush (v := 64) S.1 S.2.1 dL_drills_727 (by decide) ?_
          refine lv_iconst (v := 2) S.1 S.2.1 dL_drills_729 (by decide) ?_
          obtain ⟨q19, hc16, h⟩ := d_b h
          rcases q19 with q19 | q19
          · have h := d_s1 h
            cases h
          obtain ⟨v18, m17⟩ := q19
          have h := d_s2 h
          have h := d_p2 h
          refine dwxi (vx_runV (As := [.int 4, .int 64, .int 2]) (rest := []) S (kX11_at l g hst hc16) (cwV 3 S.2.2.2.2 gL_drills_X11_at rfl rfl rfl ynX11_at ⟨(Nat.le_of_ble_eq_true rfl), (Nat.le_of_ble_eq_true rfl)⟩) (dwV hE hP hS hb (ci := 11) rfl (dat12 dk_0)) rfl rfl hl.1 rfl (lv_room (Nat.le_of_ble_eq_true rfl)) dL_drills_730 ⟨by omega, by omega⟩) rfl hE hS hb hKs hK (fun H hP hS hb hK => ?_)
          refine lv_ldc (v := 1020110) S.1 S.2.1 S.2.2.2.1 (S.2.2.2.2 (.constant RL 149 (1020110)) (List.mem_of_getElem? (i := 12) rfl)) dL_drills_733 ?_
          refine lv_icmp_ne (tgt := 838) S.1 S.2.1 dL_drills_735 (by decide) (fun cq => ?_) (fun cq => ?_)
          · have h := d_f cq h
            cases h
          · have h := d_t cq h
            refine lv_aload_n S.1 S.2.1 dL_drills_738 rfl (lv_at hl 0 rfl) ?_
            refine lv_iconst (v := 2) S.1 S.2.1 dL_drills_739 (by decide) ?_
            refine lv_bipush (v := 64) S.1 S.2.1 dL_drills_740 (by decide) ?_
            refine lv_bipush (v := 60) S.1 S.2.1 dL_drills_742 (by decide) ?_
            refine lv_iconst (v := 1) S.1 S.2.1 dL_drills_744 (by decide) ?_
            obtain ⟨q23, hc20, h⟩ := d_b h
            rcases q23 with q23 | q23
            · have h := d_s1 h
              cases h
            obtain ⟨v22, m21⟩ := q23
            have h := d_s2 h
            have h := d_p2 h
            refine dwxi (vx_runV (As := [.int 2, .int 64, .int 60, .int 1]) (rest := []) S (kX11_part l g hst hc20) (cwV 4 S.2.2.2.2 gL_drills_X11_part rfl rfl rfl ynX11_part ⟨(Nat.le_of_ble_eq_true rfl), (Nat.le_of_ble_eq_true rfl)⟩) (dwV hE hP hS hb (ci := 11) rfl (dat12 dk_0)) rfl rfl hl.1 rfl (lv_room (Nat.le_of_ble_eq_true rfl)) dL_drills_745 ⟨by omega, by omega⟩) rfl hE hS hb hKs hK (fun H hP hS hb hK => ?_)
            refine lv_iconst (v := 5) S.1 S.2.1 dL_drills_748 (by decide) ?_
            refine lv_icmp_ne (tgt := 838) S.1 S.2.1 dL_drills_749 (by decide) (fun cq => ?_) (fun cq => ?_)
            · have h := d_f cq h
              cases h
            · have h := d_t cq h
              refine lv_aload_n S.1 S.2.1 dL_drills_752 rfl (lv_at hl 0 rfl) ?_
              refine lv_iconst (v := 5) S.1 S.2.1 dL_drills_753 (by decide) ?_
              refine lv_iconst (v := 0) S.1 S.2.1 dL_drills_754 (by decide) ?_
              obtain ⟨q27, hc24, h⟩ := d_b h
              rcases q27 with q27 | q27
              · have h := d_s1 h
                cases h
              obtain ⟨v26, m25⟩ := q27
              have h := d_s2 h
              have h := d_p2 h
              refine dwxi (vx_runV (As := [.int 5, .int 0]) (rest := []) S (kX11_place l g hst hc24) (cwV 2 S.2.2.2.2 gL_drills_X11_place rfl rfl rfl ynX11_place ⟨(Nat.le_of_ble_eq_true rfl), (Nat.le_of_ble_eq_true rfl)⟩) (dwV hE hP hS hb (ci := 11) rfl (dat12 dk_0)) rfl rfl hl.1 rfl (lv_room (Nat.le_of_ble_eq_true rfl)) dL_drills_755 ⟨by omega, by omega⟩) rfl hE hS hb hKs hK (fun H hP hS hb hK => ?_)
              refine lv_iconst (v := 1) S.1 S.2.1 dL_drills_758 (by decide) ?_
              refine lv_icmp_ne (tgt := 838) S.1 S.2.1 dL_drills_759 (by decide) (fun cq => ?_) (fun cq => ?_)
              · have h := d_f cq h
                cases h
              · have h := d_t cq h
                refine lv_aload_n S.1 S.2.1 dL_drills_762 rfl (lv_at hl 0 rfl) ?_
                refine lv_iconst (v := 5) S.1 S.2.1 dL_drills_763 (by decide) ?_
                refine lv_iconst (v := 1) S.1 S.2.1 dL_drills_764 (by decide) ?_
                obtain ⟨q31, hc28, h⟩ := d_b h
                rcases q31 with q31 | q31
                · have h := d_s1 h
                  cases h
                obtain ⟨v30, m29⟩ := q31
                have h := d_s2 h
                have h := d_p2 h
                refine dwxi (vx_runV (As := [.int 5, .int 1]) (rest := []) S (kX11_place l g hst hc28) (cwV 2 S.2.2.2.2 gL_drills_X11_place rfl rfl rfl ynX11_place ⟨(Nat.le_of_ble_eq_true rfl), (Nat.le_of_ble_eq_true rfl)⟩) (dwV hE hP hS hb (ci := 11) rfl (dat12 dk_0)) rfl rfl hl.1 rfl (lv_room (Nat.le_of_ble_eq_true rfl)) dL_drills_765 ⟨by omega, by omega⟩) rfl hE hS hb hKs hK (fun H hP hS hb hK => ?_)
                refine lv_iconst (v := 2) S.1 S.2.1 dL_drills_768 (by decide) ?_
                refine lv_icmp_ne (tgt := 838) S.1 S.2.1 dL_drills_769 (by decide) (fun cq => ?_) (fun cq => ?_)
                · have h := d_f cq h
                  cases h
                · have h := d_t cq h
                  refine lv_aload_n S.1 S.2.1 dL_drills_772 rfl (lv_at hl 0 rfl) ?_
                  refine lv_iconst (v := 5) S.1 S.2.1 dL_drills_773 (by decide) ?_
                  refine lv_bipush (v := 64) S.1 S.2.1 dL_drills_774 (by decide) ?_
                  refine lv_iconst (v := 0) S.1 S.2.1 dL_drills_776 (by decide) ?_
                  obtain ⟨q35, hc32, h⟩ := d_b h
                  rcases q35 with q35 | q35
                  · have h := d_s1 h
                    cases h
                  obtain ⟨v34, m33⟩ := q35
                  have h := d_s2 h
                  have h := d_p2 h
                  refine dwxi (vx_runV (As := [.int 5, .int 64, .int 0]) (rest := []) S (kX11_at l g hst hc32) (cwV 3 S.2.2.2.2 gL_drills_X11_at rfl rfl rfl ynX11_at ⟨(Nat.le_of_ble_eq_true rfl), (Nat.le_of_ble_eq_true rfl)⟩) (dwV hE hP hS hb (ci := 11) rfl (dat12 dk_0)) rfl rfl hl.1 rfl (lv_room (Nat.le_of_ble_eq_true rfl)) dL_drills_777 ⟨by omega, by omega⟩) rfl hE hS hb hKs hK (fun H hP hS hb hK => ?_)
                  refine lv_ldc (v := 198000) S.1 S.2.1 S.2.2.2.1 (S.2.2.2.2 (.constant RL 150 (198000)) (List.mem_of_getElem? (i := 13) rfl)) dL_drills_780 ?_
                  refine lv_icmp_ne (tgt := 838) S.1 S.2.1 dL_drills_782 (by decide) (fun cq => ?_) (fun cq => ?_)
                  · have h := d_f cq h
                    cases h
                  · have h := d_t cq h
                    obtain rfl := Option.some.inj h
                    exact kk H ls _ _ (by omega) (by omega) hP hS hb hK (lv_sub hl [0] rfl)
def fL_drills (m : dM) : Option dM := (fL_drills8 m).bind (fun m1 => (fL_drills120 m1).bind (fun m5 => (fL_drills252 m5).bind (fun m9 => (fL_drills355 m9).bind (fun m13 => (fL_drills458 m13).bind (fun m17 => (fL_drills566 m17).bind (fun m21 => (fL_drills678 m21).bind (fun m25 => (fX11_at m25 0 5 64 1).bind (fun q => dS q (fun _ => none) (fun q => dP2 q (fun v31 m30 => if v31 = 198000 then (fX11_at m30 0 5 64 2).bind (fun q => dS q (fun _ => none) (fun q => dP2 q (fun v35 m34 => if v35 = 200000 then (fX11_cut m34 0).bind (fun q => dS q (fun _ => none) (fun q => dP2 q (fun v39 m38 => if v39 = 5 then (fX11_cut m38 0).bind (fun q => dS q (fun _ => none) (fun q => dP2 q (fun v43 m42 => if v43 = 4 then (fL_refuses m42 3 5 4 4).bind (fun m46 => some m46) else none))) else none))) else none))) else none))))))))))
set_option maxHeartbeats 4000000 in
set_option maxRecDepth 100000 in
theorem kL_drills (l : Launch) (g : dG) (hst : l.stackTraces = false) (hpL_drills : ∃ r, fL_drills dI = some r) (hpL_crosses : ∃ r, fL_crosses = some r) (hpL_judges : ∃ r, fL_judges dI = some r) : dDMet l g yL_drills wsL_drills 13 270 6141 39698 := by
  refine dDof (cc := cL_drills) (maxL := 1) (ret := (some .boolean)) (by decide) rfl ?_
  intro p e s mth below meth c S hr hlk hE0 hg ls hl
  have S : CallFix p mth c cL_drills 1 s (([] : List Value).toArray) wsL_drills RL := S
  have hS : va_S (dAs s) s.heap s.heap [] := va_S.rf
  have hR1 : 0 + 6141 ≤ (headSpec wsL_drills (dDm 13 270 6141 39698)).room.cells := (Nat.le_of_ble_eq_true rfl)
  have hR2 : 0 + 39698 ≤ (headSpec wsL_drills (dDm 13 270 6141 39698)).room.slots := (Nat.le_of_ble_eq_true rfl)
  have in11 : ∀ w ∈ wsX110, w ∈ wsL_drills := by decide +kernel
  obtain ⟨r9, h⟩ := hpL_drills
  unfold fL_drills at h
  refine d_newF (k1 := 443) (k2 := 3369) (fs := [.null, .null, .null, .null, .null, .null, .null, .null]) S in11 (S.2.2.2.2 (.classLink RL 8 RX11) (List.mem_of_getElem? (i := 1) rfl)) (S.2.2.2.2 (.instantiable RX11 8) (List.mem_of_getElem? (i := 2) rfl)) (S.2.2.2.2 (.initialized RX11) (List.mem_of_getElem? (i := 3) rfl)) hE0 rfl hS hfsX11 (fun q9 H9 locs9 c9 s9 hp hf => va_runI (As := []) (rest := [.ref q9]) S (kiX11 l _ q9 _) (cwI 0 S.2.2.2.2 gL_drills_X11_init rfl rfl rfl (S.2.2.2.2 (.initialized RX11) (List.mem_of_getElem? (i := 3) rfl)) (S.2.2.2.2 (.methodLink RL 129 yX11_init) (List.mem_of_getElem? (i := 15) rfl)) (S.2.2.2.2 (.instanceMethod yX11_init) (List.mem_of_getElem? (i := 16) rfl)) rfl yniX11 ⟨(Nat.le_of_ble_eq_true rfl), (Nat.le_of_ble_eq_true rfl)⟩) hp rfl rfl hl.1 rfl (lv_room (Nat.le_of_ble_eq_true rfl)) dL_drills_4 hf) (by omega) (by omega) dL_drills_0 dL_drills_3 (fun g H hE hgb hP hS hsz hold => ?_)
  have hb : g.2.2.2 ≤ H.size := by rw [hgb]; exact hsz
  have hKs : ∀ H H1 : Heap, (∀ q, q < g.2.2.2 → H1[q]? = H[q]?) → dK1 H → dK1 H1 := fun _ _ _ _ => trivial
  have hK : dK1 H := trivial
  refine lv_astore_n (lv' := [(0, .ref (dad g 0))]) S.1 S.2.1 dL_drills_7 rfl hl (by decide) rfl (fun ls hl => ?_)
  obtain ⟨m1, hm2, h⟩ := d_b h
  refine kL_drills8 hst S hE hKs ⟨by omega, by omega⟩ hm2 hP hS hb hK (lv_sub hl [0] rfl) (fun H ls cl3 sl4 hccl3 hssl4 hP hS hb hK hl => ?_)
  obtain ⟨m5, hm6, h⟩ := d_b h
  refine kL_drills120 hst S hE hKs ⟨by omega, by omega⟩ hm6 hP hS hb hK (lv_sub hl [0] rfl) (fun H ls cl7 sl8 hccl7 hssl8 hP hS hb hK hl => ?_)
  obtain ⟨m9, hm10, h⟩ := d_b h
  refine kL_drills252 hst S hE hKs ⟨by omega, by omega⟩ hm10 hP hS hb hK (lv_sub hl [0] rfl) (fun H ls cl11 sl12 hccl11 hssl12 hP hS hb hK hl => ?_)
  obtain ⟨m13, hm14, h⟩ := d_b h
  refine kL_drills355 hst S hE hKs ⟨by omega, by omega⟩ hm14 hP hS hb hK (lv_sub hl [0] rfl) (fun H ls cl15 sl16 hccl15 hssl16 hP hS hb hK hl => ?_)
  obtain ⟨m17, hm18, h⟩ := d_b h
  refine kL_drills458 hst S hE hKs ⟨by omega, by omega⟩ hm18 hP hS hb hK (lv_sub hl [0] rfl) (fun H ls cl19 sl20 hccl19 hssl20 hP hS hb hK hl => ?_)
  obtain ⟨m21, hm22, h⟩ := d_b h
  refine kL_drills566 hst S hE hKs ⟨by omega, by omega⟩ hm22 hP hS hb hK (lv_sub hl [0] rfl) (fun H ls cl23 sl24 hccl23 hssl24 hP hS hb hK hl => ?_)
  obtain ⟨m25, hm26, h⟩ := d_b h
  refine kL_drills678 hst S hE hKs ⟨by omega, by omega⟩ hm26 hP hS hb hK (lv_sub hl [0] rfl) (fun H ls cl27 sl28 hccl27 hssl28 hP hS hb hK hl => ?_)
  refine lv_aload_n S.1 S.2.1 dL_drills_785 rfl (lv_at hl 0 rfl) ?_
  refine lv_iconst (v := 5) S.1 S.2.1 dL_drills_786 (by decide) ?_
  refine lv_bipush (v := 64) S.1 S.2.1 dL_drills_787 (by decide) ?_
  refine lv_iconst (v := 1) S.1 S.2.1 dL_drills_789 (by decide) ?_
  obtain ⟨q32, hc29, h⟩ := d_b h
  rcases q32 with q32 | q32
  · have h := d_s1 h
    cases h
  obtain ⟨v31, m30⟩ := q32
  have h := d_s2 h
  have h := d_p2 h
  refine dwxi (vx_runV (As := [.int 5, .int 64, .int 1]) (rest := []) S (kX11_at l g hst hc29) (cwV 3 S.2.2.2.2 gL_drills_X11_at rfl rfl rfl ynX11_at ⟨(Nat.le_of_ble_eq_true rfl), (Nat.le_of_ble_eq_true rfl)⟩) (dwV hE hP hS hb (ci := 11) rfl (dat12 dk_0)) rfl rfl hl.1 rfl (lv_room (Nat.le_of_ble_eq_true rfl)) dL_drills_790 ⟨by omega, by omega⟩) rfl hE hS hb hKs hK (fun H hP hS hb hK => ?_)
  refine lv_ldc (v := 198000) S.1 S.2.1 S.2.2.2.1 (S.2.2.2.2 (.constant RL 150 (198000)) (List.mem_of_getElem? (i := 13) rfl)) dL_drills_793 ?_
  refine lv_icmp_ne (tgt := 838) S.1 S.2.1 dL_drills_795 (by decide) (fun cq => ?_) (fun cq => ?_)
  · have h := d_f cq h
    cases h
  · have h := d_t cq h
    refine lv_aload_n S.1 S.2.1 dL_drills_798 rfl (lv_at hl 0 rfl) ?_
    refine lv_iconst (v := 5) S.1 S.2.1 dL_drills_799 (by decide) ?_
    refine lv_bipush (v := 64) S.1 S.2.1 dL_drills_800 (by decide) ?_
    refine lv_iconst (v := 2) S.1 S.2.1 dL_drills_802 (by decide) ?_
    obtain ⟨q36, hc33, h⟩ := d_b h
    rcases q36 with q36 | q36
    · have h := d_s1 h
      cases h
    obtain ⟨v35, m34⟩ := q36
    have h := d_s2 h
    have h := d_p2 h
    refine dwxi (vx_runV (As := [.int 5, .int 64, .int 2]) (rest := []) S (kX11_at l g hst hc33) (cwV 3 S.2.2.2.2 gL_drills_X11_at rfl rfl rfl ynX11_at ⟨(Nat.le_of_ble_eq_true rfl), (Nat.le_of_ble_eq_true rfl)⟩) (dwV hE hP hS hb (ci := 11) rfl (dat12 dk_0)) rfl rfl hl.1 rfl (lv_room (Nat.le_of_ble_eq_true rfl)) dL_drills_803 ⟨by omega, by omega⟩) rfl hE hS hb hKs hK (fun H hP hS hb hK => ?_)
    refine lv_ldc (v := 200000) S.1 S.2.1 S.2.2.2.1 (S.2.2.2.2 (.constant RL 151 (200000)) (List.mem_of_getElem? (i := 14) rfl)) dL_drills_806 ?_
    refine lv_icmp_ne (tgt := 838) S.1 S.2.1 dL_drills_808 (by decide) (fun cq => ?_) (fun cq => ?_)
    · have h := d_f cq h
      cases h
    · have h := d_t cq h
      refine lv_aload_n S.1 S.2.1 dL_drills_811 rfl (lv_at hl 0 rfl) ?_
      obtain ⟨q40, hc37, h⟩ := d_b h
      rcases q40 with q40 | q40
      · have h := d_s1 h
        cases h
      obtain ⟨v39, m38⟩ := q40
      have h := d_s2 h
      have h := d_p2 h
      refine dwxi (vx_runV (As := []) (rest := []) S (kX11_cut l g hst hc37) (cwV 0 S.2.2.2.2 gL_drills_X11_cut rfl rfl rfl ynX11_cut ⟨(Nat.le_of_ble_eq_true rfl), (Nat.le_of_ble_eq_true rfl)⟩) (dwV hE hP hS hb (ci := 11) rfl (dat12 dk_0)) rfl rfl hl.1 rfl (lv_room (Nat.le_of_ble_eq_true rfl)) dL_drills_812 ⟨by omega, by omega⟩) rfl hE hS hb hKs hK (fun H hP hS hb hK => ?_)
      refine lv_iconst (v := 5) S.1 S.2.1 dL_drills_815 (by decide) ?_
      refine lv_icmp_ne (tgt := 838) S.1 S.2.1 dL_drills_816 (by decide) (fun cq => ?_) (fun cq => ?_)
      · have h := d_f cq h
        cases h
      · have h := d_t cq h
        refine lv_aload_n S.1 S.2.1 dL_drills_819 rfl (lv_at hl 0 rfl) ?_
        obtain ⟨q44, hc41, h⟩ := d_b h
        rcases q44 with q44 | q44
        · have h := d_s1 h
          cases h
        obtain ⟨v43, m42⟩ := q44
        have h := d_s2 h
        have h := d_p2 h
        refine dwxi (vx_runV (As := []) (rest := []) S (kX11_cut l g hst hc41) (cwV 0 S.2.2.2.2 gL_drills_X11_cut rfl rfl rfl ynX11_cut ⟨(Nat.le_of_ble_eq_true rfl), (Nat.le_of_ble_eq_true rfl)⟩) (dwV hE hP hS hb (ci := 11) rfl (dat12 dk_0)) rfl rfl hl.1 rfl (lv_room (Nat.le_of_ble_eq_true rfl)) dL_drills_820 ⟨by omega, by omega⟩) rfl hE hS hb hKs hK (fun H hP hS hb hK => ?_)
        refine lv_iconst (v := 4) S.1 S.2.1 dL_drills_823 (by decide) ?_
        refine lv_icmp_ne (tgt := 838) S.1 S.2.1 dL_drills_824 (by decide) (fun cq => ?_) (fun cq => ?_)
        · have h := d_f cq h
          cases h
        · have h := d_t cq h
          refine lv_aload_n S.1 S.2.1 dL_drills_827 rfl (lv_at hl 0 rfl) ?_
          refine lv_iconst (v := 3) S.1 S.2.1 dL_drills_828 (by decide) ?_
          refine lv_iconst (v := 5) S.1 S.2.1 dL_drills_829 (by decide) ?_
          refine lv_iconst (v := 4) S.1 S.2.1 dL_drills_830 (by decide) ?_
          refine lv_iconst (v := 4) S.1 S.2.1 dL_drills_831 (by decide) ?_
          obtain ⟨m46, hc45, h⟩ := d_b h
          refine dwLi (vx_runS (As := [.ref (dad g 0), .int 3, .int 5, .int 4, .int 4]) (rest := []) S (kL_refuses l g hst hc45) (va_cwS 5 S.2.2.2.2 gL_drills_L_refuses rfl rfl rfl ynL_refuses ⟨(Nat.le_of_ble_eq_true rfl), (Nat.le_of_ble_eq_true rfl)⟩) (dwS hE hP hS hb) rfl rfl hl.1 rfl (lv_room (Nat.le_of_ble_eq_true rfl)) dL_drills_832 ⟨by omega, by omega⟩) hE hS hb hKs hK (fun H hP hS hb hK => ?_)
          refine lv_if_ne (tgt := 840) S.1 S.2.1 dL_drills_835 (by decide) (fun cq => ?_) (fun cq => ?_)
          · refine dwDi (vx_runS (As := []) (rest := []) S (kL_crosses l _ hst hpL_crosses) (va_cwS 0 S.2.2.2.2 gL_drills_L_crosses rfl rfl rfl ynL_crosses ⟨(Nat.le_of_ble_eq_true rfl), (Nat.le_of_ble_eq_true rfl)⟩) (dwE hE0 hS) rfl rfl hl.1 rfl (lv_room (Nat.le_of_ble_eq_true rfl)) dL_drills_840 ⟨by omega, by omega⟩) (Nat.le_refl _) hS (fun H hS => ?_)
            refine lv_if_eq (tgt := 856) S.1 S.2.1 dL_drills_843 (by decide) (fun cq => ?_) (fun cq => ?_)
            · exact absurd cq (by decide)
            · refine dwDi (vx_runS (As := []) (rest := []) S (kL_judges l _ hst hpL_judges) (va_cwS 0 S.2.2.2.2 gL_drills_L_judges rfl rfl rfl ynL_judges ⟨(Nat.le_of_ble_eq_true rfl), (Nat.le_of_ble_eq_true rfl)⟩) (dwE hE0 hS) rfl rfl hl.1 rfl (lv_room (Nat.le_of_ble_eq_true rfl)) dL_drills_846 ⟨by omega, by omega⟩) (Nat.le_refl _) hS (fun H hS => ?_)
              refine lv_if_eq (tgt := 856) S.1 S.2.1 dL_drills_849 (by decide) (fun cq => ?_) (fun cq => ?_)
              · exact absurd cq (by decide)
              · refine lv_iconst (v := 1) S.1 S.2.1 dL_drills_852 (by decide) ?_
                refine lv_goto (tgt := 857) S.1 S.2.1 dL_drills_853 (by decide) ?_
                exact dDti S hr hlk hg hS rfl (by omega) (by omega) dL_drills_857
          · exact absurd cq (by decide)
