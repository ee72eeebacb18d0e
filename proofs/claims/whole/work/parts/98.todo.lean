theorem nd_pure : nd_Pure := sorry
