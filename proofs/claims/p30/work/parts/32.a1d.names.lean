set_option maxRecDepth 20000 in
theorem wsL_law_in0_9b : ∀ w ∈ wsL_law0_r9b, w ∈ lw_tbl := fun w h => (goodIn_p wsL_law0_r9b [417, 420] (by decide +kernel) (by decide +kernel) w h).1
set_option maxRecDepth 20000 in
theorem wsL_law_in0_9 : ∀ w ∈ wsL_law0_r9, w ∈ lw_tbl := fun w h => (List.mem_append.mp (show w ∈ wsL_law0_r9a ++ (Cond.code yL_isSo cL_isSo 23 (some .boolean) :: wsL_law0_r9b) from h)).elim (fun h => wsL_law_in0_9a w h) (fun h => (List.mem_cons.mp h).elim (fun e => e ▸ wsL_law_in_isSo) (fun h => wsL_law_in0_9b w h))
set_option maxRecDepth 20000 in
theorem wsL_law_in0_10 : ∀ w ∈ wsL_law0_r10, w ∈ lw_tbl := fun w h => (goodIn_p wsL_law0_r10 [423, 426, 430, 434, 438, 442] (by decide +kernel) (by decide +kernel) w h).1
