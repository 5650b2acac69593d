theorem pub_furnace {m : jmM} (h : Rel m) : PUB 143 221 [.ref 0] [.ref 195] m := sorry
theorem pub_minder {m : jmM} (h : Rel m) : PUB 144 222 [.ref 0] [.ref 195] m := sorry
