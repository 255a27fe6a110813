theorem go_13_n : ae_go (.inl 13, [.inr (-2147483648, -1), .inr (11, 2147483647)], ae_cut 0 7, ae_cut 0 2) = true := by decide +kernel
theorem go_13_0 : ae_go (.inl 13, [.inl 0], ae_cut 0 7, ae_cut 0 2) = true := by decide +kernel
theorem go_13_1 : ae_go (.inl 13, [.inl 1], ae_cut 0 7, ae_cut 0 2) = true := by decide +kernel
theorem go_13_2 : ae_go (.inl 13, [.inl 2], ae_cut 0 7, ae_cut 0 2) = true := by decide +kernel
theorem go_13_3 : ae_go (.inl 13, [.inl 3], ae_cut 0 7, ae_cut 0 2) = true := by decide +kernel
theorem go_13_4 : ae_go (.inl 13, [.inl 4], ae_cut 0 7, ae_cut 0 2) = true := by decide +kernel
theorem go_13_5 : ae_go (.inl 13, [.inl 5], ae_cut 0 7, ae_cut 0 2) = true := by decide +kernel
theorem go_13_6 : ae_go (.inl 13, [.inl 6], ae_cut 0 7, ae_cut 0 2) = true := by decide +kernel
theorem go_13_7 : ae_go (.inl 13, [.inl 7], ae_cut 0 7, ae_cut 0 2) = true := by decide +kernel
theorem go_13_8 : ae_go (.inl 13, [.inl 8], ae_cut 0 7, ae_cut 0 2) = true := by decide +kernel
theorem go_13_9 : ae_go (.inl 13, [.inl 9], ae_cut 0 7, ae_cut 0 2) = true := by decide +kernel
theorem go_13_10 : ae_go (.inl 13, [.inl 10], ae_cut 0 7, ae_cut 0 2) = true := by decide +kernel
