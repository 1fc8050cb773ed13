theorem ly_addr2 {A : Nat → Prop} {w1 w2 : va_W} (h : va_D A w2) (ha : w1.map (·.1) = w2.map (·.1)) : va_D A w1 := ly_addr ha h
