theorem go_13_3 : ae_go (.inl 13, [.inl 3], ae_cut 0 7, ae_cut 0 2) = true := by decide +kernel
