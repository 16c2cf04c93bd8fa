set_option maxRecDepth 20000 in
theorem wi_wsX20 : ∀ w ∈ wsX20, w ∈ lw_tbl := fun w h => (goodIn_r wsX20 [172, 174, 176] (by decide +kernel) (by decide +kernel) w h).1
