theorem k_umbC_3_1 : f_X8_umbrellas [.inr (.ref 0), .inl 2147483651, .inl 2147483647] 336 zA2 (zret 2147483648) = true := by decide +kernel
theorem k_umbC_3_2 : f_X8_umbrellas [.inr (.ref 0), .inl 2147483651, .inl 2147483648] 336 zA2 (zret 2147483648) = true := by decide +kernel
theorem k_umbC_3_3 : f_X8_umbrellas [.inr (.ref 0), .inl 2147483651, .inl 2147483649] 336 zA2 (zret 2147483649) = true := by decide +kernel
theorem k_umbC_3_4 : f_X8_umbrellas [.inr (.ref 0), .inl 2147483651, .inl 2147483650] 336 zA2 (zret 2147483650) = true := by decide +kernel
