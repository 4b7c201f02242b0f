set_option maxRecDepth 20000 in
theorem wsL_law_in0_7 : ∀ w ∈ wsL_law0_r7, w ∈ lw_tbl := fun w h => (goodIn_p wsL_law0_r7 [208, 215, 309, 313, 317, 325] (by decide +kernel) (by decide +kernel) w h).1
set_option maxRecDepth 20000 in
theorem wsL_law_in0_8 : ∀ w ∈ wsL_law0_r8, w ∈ lw_tbl := fun w h => (goodIn_p wsL_law0_r8 [329, 333, 337, 341, 345, 349] (by decide +kernel) (by decide +kernel) w h).1
set_option maxRecDepth 20000 in
theorem wsL_law_in_isSo : Cond.code yL_isSo cL_isSo 23 (some .boolean) ∈ lw_tbl := List.mem_of_getElem? (i := 414) rfl
def wsL_law0_r9a : List Cond := [Cond.selects RX1 yX1_changeLength yX1_changeLength, Cond.code yX1_changeLength cX1_changeLength 2 none, Cond.methodLink RL 138 yX6_setCuts, Cond.instanceMethod yX6_setCuts, Cond.selects RX6 yX6_setCuts yX6_setCuts, Cond.code yX6_setCuts cX6_setCuts 3 none, Cond.constant RX6 113 (100000), Cond.methodLink RX6 114 yX2_changeCuts, Cond.instanceMethod yX2_changeCuts, Cond.selects RX2 yX2_changeCuts yX2_changeCuts, Cond.code yX2_changeCuts cX2_changeCuts 3 none, Cond.methodLink RL 142 yX6_setBound, Cond.instanceMethod yX6_setBound, Cond.selects RX6 yX6_setBound yX6_setBound, Cond.code yX6_setBound cX6_setBound 3 none, Cond.methodLink RL 145 yL_isSo, Cond.static yL_isSo]
set_option maxRecDepth 20000 in
theorem wsL_law_in0_9a : ∀ w ∈ wsL_law0_r9a, w ∈ lw_tbl := fun w h => (goodIn_p wsL_law0_r9a [353, 357, 362, 366] (by decide +kernel) (by decide +kernel) w h).1
def wsL_law0_r9b : List Cond := [Cond.methodLink RL 61 yL_seasons, Cond.static yL_seasons, Cond.code yL_seasons cL_seasons 9 (some .int), Cond.methodLink RL 33 yL_median, Cond.static yL_median, Cond.code yL_median cL_median 10 (some .int)]
