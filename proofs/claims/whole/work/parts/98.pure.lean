theorem whole_pure : PURE := sorry
