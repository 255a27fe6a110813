theorem go_0 : ae_go (.inl 0, ae_all, ae_all, ae_cut 1 8) = true := by decide +kernel
theorem go_1 : ae_go (.inl 1, ae_all, ae_all, ae_all) = true := by decide +kernel
theorem go_2 : ae_go (.inl 2, ae_all, ae_all, ae_all) = true := by decide +kernel
theorem go_3 : ae_go (.inl 3, ae_all, ae_all, ae_all) = true := by decide +kernel
theorem go_15 : ae_go (.inl 15, ae_all, ae_all, ae_all) = true := by decide +kernel
theorem go_16 : ae_go (.inl 16, ae_all, ae_all, ae_all) = true := by decide +kernel
theorem go_18 : ae_go (.inl 18, ae_all, ae_all, ae_all) = true := by decide +kernel
theorem go_4 : ae_go (.inl 4, ae_cut 0 2, ae_cut 0 4, ae_all) = true := by decide +kernel
theorem go_5 : ae_go (.inl 5, ae_neg, ae_all, ae_all) = true := by decide +kernel
theorem go_6 : ae_go (.inl 6, ae_neg, ae_all, ae_all) = true := by decide +kernel
theorem go_11 : ae_go (.inl 11, ae_neg, ae_all, ae_all) = true := by decide +kernel
theorem go_7 : ae_go (.inl 7, ae_cut 0 100, ae_all, ae_all) = true := by decide +kernel
theorem go_8 : ae_go (.inl 8, ae_cut 0 2, ae_cut 0 3, ae_all) = true := by decide +kernel
theorem go_9 : ae_go (.inl 9, ae_m1, ae_all, ae_all) = true := by decide +kernel
theorem go_12 : ae_go (.inl 12, ae_m1, ae_all, ae_all) = true := by decide +kernel
theorem go_10 : ae_go (.inl 10, ae_cut 0 4, ae_all, ae_all) = true := by decide +kernel
theorem go_14 : ae_go (.inl 14, ae_r99, ae_all, ae_all) = true := by decide +kernel
theorem go_17 : ae_go (.inl 17, ae_all, ae_neg, ae_all) = true := by decide +kernel
theorem go_21 : ae_go (.inl 21, ae_cut 0 2, ae_all, ae_all) = true := by decide +kernel
theorem go_22 : ae_go (.inl 22, ae_cut 0 2, ae_all, ae_all) = true := by decide +kernel
theorem go_23 : ae_go (.inl 23, ae_cut 0 9, ae_all, ae_all) = true := by decide +kernel
theorem go_24 : ae_go (.inr (24, 31), ae_all, ae_all, ae_all) = true := by decide +kernel
theorem sh_0 : ae_sh 0 = true := by decide +kernel
theorem sh_1 : ae_sh 1 = true := by decide +kernel
theorem sh_2 : ae_sh 2 = true := by decide +kernel
theorem sh_3 : ae_sh 3 = true := by decide +kernel
