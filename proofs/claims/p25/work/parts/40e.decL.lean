theorem inlX0 : ∀ w ∈ wsX00, w ∈ wsL_law := fun _ h => List.mem_append_left _ (List.mem_append_right _ h)
theorem inlX1 : ∀ w ∈ wsX10, w ∈ wsL_law := fun _ h => List.mem_append_left _ (List.mem_append_left _ (List.mem_append_right _ h))
theorem inlX2 : ∀ w ∈ wsX20, w ∈ wsL_law := fun _ h => List.mem_append_left _ (List.mem_append_left _ (List.mem_append_left _ (List.mem_append_right _ h)))
theorem inlX3 : ∀ w ∈ wsX30, w ∈ wsL_law := fun _ h => List.mem_append_left _ (List.mem_append_left _ (List.mem_append_left _ (List.mem_append_left _ (List.mem_append_right _ h))))
theorem inlX4 : ∀ w ∈ wsX40, w ∈ wsL_law := fun _ h => List.mem_append_left _ (List.mem_append_left _ (List.mem_append_left _ (List.mem_append_left _ (List.mem_append_left _ (List.mem_append_right _ h)))))
set_option maxRecDepth 20000 in
theorem aL_0 : GoodIn wsL_law [Cond.code yL_act cL_act 11 (some .boolean)] := goodIn_r _ [146] (by decide +kernel) (by decide +kernel)
set_option maxRecDepth 20000 in
theorem aL_1 : GoodIn wsL_law wsL_act_r1 := goodIn_r _ [147, 148, 71, 149, 50, 150, 151, 152, 2, 153, 21, 154, 14, 12, 155, 156, 157, 11, 158, 40, 39, 41, 42, 46] (by decide +kernel) (by decide +kernel)
set_option maxRecDepth 20000 in
theorem aL_2 : GoodIn wsL_law wsL_act_r2 := goodIn_r _ [159, 36, 160, 161, 162, 163, 38, 164, 165, 166, 167, 168, 169, 170, 171, 172, 173, 174, 175, 176, 177, 178, 179, 180] (by decide +kernel) (by decide +kernel)
set_option maxRecDepth 20000 in
theorem aL_3 : GoodIn wsL_law wsL_act_r3 := goodIn_r _ [24, 181, 98, 99, 100, 101, 102, 103, 104, 105, 74, 75, 76, 77, 123, 124, 125, 126, 82, 83, 84, 85, 13, 86] (by decide +kernel) (by decide +kernel)
set_option maxRecDepth 20000 in
theorem aL_4 : GoodIn wsL_law wsL_act_r4 := goodIn_r _ [87, 88, 89, 90, 91, 92, 93, 94, 95, 96, 97, 106, 107, 108, 45, 109, 51, 110, 52, 53, 54, 55, 127, 128] (by decide +kernel) (by decide +kernel)
set_option maxRecDepth 20000 in
theorem aL_5 : GoodIn wsL_law wsL_act_r5 := goodIn_r _ [129, 130, 131, 132, 133, 134, 135, 136, 137, 138, 139, 140, 141, 142, 143, 115, 116, 117, 118, 119, 120, 121, 122, 182] (by decide +kernel) (by decide +kernel)
