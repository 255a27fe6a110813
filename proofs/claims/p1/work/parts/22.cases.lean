theorem go_19_n : ae_go (.inl 19, [.inr (-2147483648, 0), .inr (11, 2147483647)], ae_cut 0 2, ae_all) = true := by decide +kernel
theorem go_19_1 : ae_go (.inl 19, [.inl 1], ae_cut 0 2, ae_all) = true := by decide +kernel
theorem go_19_2 : ae_go (.inl 19, [.inl 2], ae_cut 0 2, ae_all) = true := by decide +kernel
theorem go_19_3 : ae_go (.inl 19, [.inl 3], ae_cut 0 2, ae_all) = true := by decide +kernel
theorem go_19_4 : ae_go (.inl 19, [.inl 4], ae_cut 0 2, ae_all) = true := by decide +kernel
theorem go_19_5 : ae_go (.inl 19, [.inl 5], ae_cut 0 2, ae_all) = true := by decide +kernel
theorem go_19_6 : ae_go (.inl 19, [.inl 6], ae_cut 0 2, ae_all) = true := by decide +kernel
theorem go_19_7 : ae_go (.inl 19, [.inl 7], ae_cut 0 2, ae_all) = true := by decide +kernel
theorem go_19_8 : ae_go (.inl 19, [.inl 8], ae_cut 0 2, ae_all) = true := by decide +kernel
theorem go_19_9 : ae_go (.inl 19, [.inl 9], ae_cut 0 2, ae_all) = true := by decide +kernel
theorem go_19_10 : ae_go (.inl 19, [.inl 10], ae_cut 0 2, ae_all) = true := by decide +kernel
theorem go_20_n : ae_go (.inl 20, [.inr (-2147483648, 0), .inr (11, 2147483647)], ae_all, ae_all) = true := by decide +kernel
theorem go_20_1 : ae_go (.inl 20, [.inl 1], ae_all, ae_all) = true := by decide +kernel
theorem go_20_2 : ae_go (.inl 20, [.inl 2], ae_all, ae_all) = true := by decide +kernel
theorem go_20_3 : ae_go (.inl 20, [.inl 3], ae_all, ae_all) = true := by decide +kernel
theorem go_20_4 : ae_go (.inl 20, [.inl 4], ae_all, ae_all) = true := by decide +kernel
theorem go_20_5 : ae_go (.inl 20, [.inl 5], ae_all, ae_all) = true := by decide +kernel
theorem go_20_6 : ae_go (.inl 20, [.inl 6], ae_all, ae_all) = true := by decide +kernel
theorem go_20_7 : ae_go (.inl 20, [.inl 7], ae_all, ae_all) = true := by decide +kernel
theorem go_20_8 : ae_go (.inl 20, [.inl 8], ae_all, ae_all) = true := by decide +kernel
theorem go_20_9 : ae_go (.inl 20, [.inl 9], ae_all, ae_all) = true := by decide +kernel
theorem go_20_10 : ae_go (.inl 20, [.inl 10], ae_all, ae_all) = true := by decide +kernel
