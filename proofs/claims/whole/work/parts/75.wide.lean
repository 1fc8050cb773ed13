/-! the wide worlds -/
def cw (cI cC cZ cN : ClassId) (t a a2 b : Nat → Nat) (ba ia : Nat → Nat → Nat) (lt nx kn s0 : Nat) (tr : Int64) (an : Int32) (xv iv pv : Value) (tx nm rr : Nat → Nat) (g g2 : Nat → Nat → Nat) (d ho le : Nat → Nat) (sd sh sl : Nat → Nat → Nat) (hv kp : Nat → Nat) (jd jh jl : Nat → Nat → Nat) (wf lf rf : Nat → Int32) : va_W :=
  [((t 0), .inr (6, [.ref (t 1), .int (nI lt), .ref (t 2), .ref (a 0), .ref (a2 0), .ref (b 0), .ref (t 4), .ref (t 5), .ref (t 6), .ref (t 7), .ref (t 8), .long tr])),
   ((a 0), .inr (4, [.int (nI (g 0 0)), .ref (a 1), .ref (a 2), .ref (a 3), .int (nI (g 0 1)), .ref (a 4), .ref (a 5), .ref (a 6), .ref (a 7), .ref (a 8), .ref (a 9), .int (nI (g 0 2))])),
   ((a 1), .inl (cI, 9, .inl (fun j => nI ((g 1) j)))),
   ((a 2), .inl (cI, 9, .inl (fun j => nI ((g 2) j)))),
   ((a 3), .inl (cI, 9, .inl (fun j => nI ((g 3) j)))),
   ((a 4), .inl (cI, 6, .inl (fun j => nI ((g 4) j)))),
   ((a 5), .inl (cI, 6, .inl (fun j => nI ((g 5) j)))),
   ((a 6), .inl (cI, 6, .inl (fun j => nI ((g 6) j)))),
   ((a 7), .inl (cI, 5, .inl (fun j => nI ((g 7) j)))),
   ((a 8), .inl (cI, 5, .inl (fun j => nI ((g 8) j)))),
   ((a 9), .inl (cI, 5, .inl (fun j => ly_h ((g 9) j)))),
   ((b 0), .inr (3, [.int (nI (d 0)), .int (nI (d 1)), .int (nI (d 2)), .int (nI (d 3)), .int (nI (d 4)), .ref (b 1), .ref (b 2)])),
   ((b 1), .inl (cI, 9, .inl (fun j => ly_h (ho j)))),
   ((b 2), .inl (cI, 9, .inl (fun j => nI (le j)))),
   ((t 4), .inr (0, [.ref (t 9), .int (nI nx), .int (nI kn)])),
   ((t 9), .inl (cN, 10, .inr (.inr (.inr (.inr (fun j => some (ba j 0))))))),
   ((t 5), .inr (1, [.int (nI (hv 0)), .int (nI (hv 1)), .int (nI (hv 2)), .int (nI (hv 3)), .int (nI (hv 4)), .int (nI (hv 5))])),
   ((t 2), .inr (5, [xv, .int (nI (rr 0)), .int (nI (rr 1)), iv, .ref (t 3), .int (nI (rr 2)), .int (nI (rr 3)), .int (nI (rr 4)), .int (nI (rr 5))])),
   ((t 1), .inl (cC, 180, .inl (fun j => nI (tx j)))),
   ((t 3), .inl (cI, 3, .inl (fun j => nI (nm j)))),
   ((a2 0), .inr (4, [.int (nI (g2 0 0)), .ref (a2 1), .ref (a2 2), .ref (a2 3), .int (nI (g2 0 1)), .ref (a2 4), .ref (a2 5), .ref (a2 6), .ref (a2 7), .ref (a2 8), .ref (a2 9), .int (nI (g2 0 2))])),
   ((a2 1), .inl (cI, 9, .inl (fun j => nI ((g2 1) j)))),
   ((a2 2), .inl (cI, 9, .inl (fun j => nI ((g2 2) j)))),
   ((a2 3), .inl (cI, 9, .inl (fun j => nI ((g2 3) j)))),
   ((a2 4), .inl (cI, 6, .inl (fun j => nI ((g2 4) j)))),
   ((a2 5), .inl (cI, 6, .inl (fun j => nI ((g2 5) j)))),
   ((a2 6), .inl (cI, 6, .inl (fun j => nI ((g2 6) j)))),
   ((a2 7), .inl (cI, 5, .inl (fun j => nI ((g2 7) j)))),
   ((a2 8), .inl (cI, 5, .inl (fun j => nI ((g2 8) j)))),
   ((a2 9), .inl (cI, 5, .inl (fun j => ly_h ((g2 9) j)))),
   ((t 6), .inr (2, [.ref (t 10), .ref (t 11), .ref (t 12), pv, .int (nI s0), .int an])),
   ((t 10), .inl (cI, 3072, .inl wf)),
   ((t 11), .inl (cI, 6, .inl lf)),
   ((t 12), .inl (cI, 6, .inl rf)),
   ((t 7), .inl (cN, 2, .inr (.inr (.inr (.inr (fun j => some (ia j 0))))))),
   ((t 8), .inl (cZ, 2, .inl (fun j => nI (kp j)))),
   ((ia 0 0), .inr (3, [.int (nI (jd 0 0)), .int (nI (jd 0 1)), .int (nI (jd 0 2)), .int (nI (jd 0 3)), .int (nI (jd 0 4)), .ref (ia 0 1), .ref (ia 0 2)])),
   ((ia 0 1), .inl (cI, 9, .inl (fun j => ly_h (jh 0 j)))),
   ((ia 0 2), .inl (cI, 9, .inl (fun j => nI (jl 0 j)))),
   ((ia 1 0), .inr (3, [.int (nI (jd 1 0)), .int (nI (jd 1 1)), .int (nI (jd 1 2)), .int (nI (jd 1 3)), .int (nI (jd 1 4)), .ref (ia 1 1), .ref (ia 1 2)])),
   ((ia 1 1), .inl (cI, 9, .inl (fun j => ly_h (jh 1 j)))),
   ((ia 1 2), .inl (cI, 9, .inl (fun j => nI (jl 1 j)))),
   ((ba 0 0), .inr (3, [.int (nI (sd 0 0)), .int (nI (sd 0 1)), .int (nI (sd 0 2)), .int (nI (sd 0 3)), .int (nI (sd 0 4)), .ref (ba 0 1), .ref (ba 0 2)])),
   ((ba 0 1), .inl (cI, 9, .inl (fun j => ly_h (sh 0 j)))),
   ((ba 0 2), .inl (cI, 9, .inl (fun j => nI (sl 0 j)))),
   ((ba 1 0), .inr (3, [.int (nI (sd 1 0)), .int (nI (sd 1 1)), .int (nI (sd 1 2)), .int (nI (sd 1 3)), .int (nI (sd 1 4)), .ref (ba 1 1), .ref (ba 1 2)])),
   ((ba 1 1), .inl (cI, 9, .inl (fun j => ly_h (sh 1 j)))),
   ((ba 1 2), .inl (cI, 9, .inl (fun j => nI (sl 1 j)))),
   ((ba 2 0), .inr (3, [.int (nI (sd 2 0)), .int (nI (sd 2 1)), .int (nI (sd 2 2)), .int (nI (sd 2 3)), .int (nI (sd 2 4)), .ref (ba 2 1), .ref (ba 2 2)])),
   ((ba 2 1), .inl (cI, 9, .inl (fun j => ly_h (sh 2 j)))),
   ((ba 2 2), .inl (cI, 9, .inl (fun j => nI (sl 2 j)))),
   ((ba 3 0), .inr (3, [.int (nI (sd 3 0)), .int (nI (sd 3 1)), .int (nI (sd 3 2)), .int (nI (sd 3 3)), .int (nI (sd 3 4)), .ref (ba 3 1), .ref (ba 3 2)])),
   ((ba 3 1), .inl (cI, 9, .inl (fun j => ly_h (sh 3 j)))),
   ((ba 3 2), .inl (cI, 9, .inl (fun j => nI (sl 3 j)))),
   ((ba 4 0), .inr (3, [.int (nI (sd 4 0)), .int (nI (sd 4 1)), .int (nI (sd 4 2)), .int (nI (sd 4 3)), .int (nI (sd 4 4)), .ref (ba 4 1), .ref (ba 4 2)])),
   ((ba 4 1), .inl (cI, 9, .inl (fun j => ly_h (sh 4 j)))),
   ((ba 4 2), .inl (cI, 9, .inl (fun j => nI (sl 4 j)))),
   ((ba 5 0), .inr (3, [.int (nI (sd 5 0)), .int (nI (sd 5 1)), .int (nI (sd 5 2)), .int (nI (sd 5 3)), .int (nI (sd 5 4)), .ref (ba 5 1), .ref (ba 5 2)])),
   ((ba 5 1), .inl (cI, 9, .inl (fun j => ly_h (sh 5 j)))),
   ((ba 5 2), .inl (cI, 9, .inl (fun j => nI (sl 5 j)))),
   ((ba 6 0), .inr (3, [.int (nI (sd 6 0)), .int (nI (sd 6 1)), .int (nI (sd 6 2)), .int (nI (sd 6 3)), .int (nI (sd 6 4)), .ref (ba 6 1), .ref (ba 6 2)])),
   ((ba 6 1), .inl (cI, 9, .inl (fun j => ly_h (sh 6 j)))),
   ((ba 6 2), .inl (cI, 9, .inl (fun j => nI (sl 6 j)))),
   ((ba 7 0), .inr (3, [.int (nI (sd 7 0)), .int (nI (sd 7 1)), .int (nI (sd 7 2)), .int (nI (sd 7 3)), .int (nI (sd 7 4)), .ref (ba 7 1), .ref (ba 7 2)])),
   ((ba 7 1), .inl (cI, 9, .inl (fun j => ly_h (sh 7 j)))),
   ((ba 7 2), .inl (cI, 9, .inl (fun j => nI (sl 7 j)))),
   ((ba 8 0), .inr (3, [.int (nI (sd 8 0)), .int (nI (sd 8 1)), .int (nI (sd 8 2)), .int (nI (sd 8 3)), .int (nI (sd 8 4)), .ref (ba 8 1), .ref (ba 8 2)])),
   ((ba 8 1), .inl (cI, 9, .inl (fun j => ly_h (sh 8 j)))),
   ((ba 8 2), .inl (cI, 9, .inl (fun j => nI (sl 8 j)))),
   ((ba 9 0), .inr (3, [.int (nI (sd 9 0)), .int (nI (sd 9 1)), .int (nI (sd 9 2)), .int (nI (sd 9 3)), .int (nI (sd 9 4)), .ref (ba 9 1), .ref (ba 9 2)])),
   ((ba 9 1), .inl (cI, 9, .inl (fun j => ly_h (sh 9 j)))),
   ((ba 9 2), .inl (cI, 9, .inl (fun j => nI (sl 9 j))))]
/-- the same cells, the two parishes in each other's places -/
def cwZ (cI cC cZ cN : ClassId) (t a a2 b : Nat → Nat) (ba ia : Nat → Nat → Nat) (lt nx kn s0 : Nat) (tr : Int64) (an : Int32) (xv iv pv : Value) (tx nm rr : Nat → Nat) (g g2 : Nat → Nat → Nat) (d ho le : Nat → Nat) (sd sh sl : Nat → Nat → Nat) (hv kp : Nat → Nat) (jd jh jl : Nat → Nat → Nat) (wf lf rf : Nat → Int32) : va_W :=
  [((t 0), .inr (6, [.ref (t 1), .int (nI lt), .ref (t 2), .ref (a 0), .ref (a2 0), .ref (b 0), .ref (t 4), .ref (t 5), .ref (t 6), .ref (t 7), .ref (t 8), .long tr])),
   ((a2 0), .inr (4, [.int (nI (g2 0 0)), .ref (a2 1), .ref (a2 2), .ref (a2 3), .int (nI (g2 0 1)), .ref (a2 4), .ref (a2 5), .ref (a2 6), .ref (a2 7), .ref (a2 8), .ref (a2 9), .int (nI (g2 0 2))])),
   ((a2 1), .inl (cI, 9, .inl (fun j => nI ((g2 1) j)))),
   ((a2 2), .inl (cI, 9, .inl (fun j => nI ((g2 2) j)))),
   ((a2 3), .inl (cI, 9, .inl (fun j => nI ((g2 3) j)))),
   ((a2 4), .inl (cI, 6, .inl (fun j => nI ((g2 4) j)))),
   ((a2 5), .inl (cI, 6, .inl (fun j => nI ((g2 5) j)))),
   ((a2 6), .inl (cI, 6, .inl (fun j => nI ((g2 6) j)))),
   ((a2 7), .inl (cI, 5, .inl (fun j => nI ((g2 7) j)))),
   ((a2 8), .inl (cI, 5, .inl (fun j => nI ((g2 8) j)))),
   ((a2 9), .inl (cI, 5, .inl (fun j => ly_h ((g2 9) j)))),
   ((b 0), .inr (3, [.int (nI (d 0)), .int (nI (d 1)), .int (nI (d 2)), .int (nI (d 3)), .int (nI (d 4)), .ref (b 1), .ref (b 2)])),
   ((b 1), .inl (cI, 9, .inl (fun j => ly_h (ho j)))),
   ((b 2), .inl (cI, 9, .inl (fun j => nI (le j)))),
   ((t 4), .inr (0, [.ref (t 9), .int (nI nx), .int (nI kn)])),
   ((t 9), .inl (cN, 10, .inr (.inr (.inr (.inr (fun j => some (ba j 0))))))),
   ((t 5), .inr (1, [.int (nI (hv 0)), .int (nI (hv 1)), .int (nI (hv 2)), .int (nI (hv 3)), .int (nI (hv 4)), .int (nI (hv 5))])),
   ((t 2), .inr (5, [xv, .int (nI (rr 0)), .int (nI (rr 1)), iv, .ref (t 3), .int (nI (rr 2)), .int (nI (rr 3)), .int (nI (rr 4)), .int (nI (rr 5))])),
   ((t 1), .inl (cC, 180, .inl (fun j => nI (tx j)))),
   ((t 3), .inl (cI, 3, .inl (fun j => nI (nm j)))),
   ((a 0), .inr (4, [.int (nI (g 0 0)), .ref (a 1), .ref (a 2), .ref (a 3), .int (nI (g 0 1)), .ref (a 4), .ref (a 5), .ref (a 6), .ref (a 7), .ref (a 8), .ref (a 9), .int (nI (g 0 2))])),
   ((a 1), .inl (cI, 9, .inl (fun j => nI ((g 1) j)))),
   ((a 2), .inl (cI, 9, .inl (fun j => nI ((g 2) j)))),
   ((a 3), .inl (cI, 9, .inl (fun j => nI ((g 3) j)))),
   ((a 4), .inl (cI, 6, .inl (fun j => nI ((g 4) j)))),
   ((a 5), .inl (cI, 6, .inl (fun j => nI ((g 5) j)))),
   ((a 6), .inl (cI, 6, .inl (fun j => nI ((g 6) j)))),
   ((a 7), .inl (cI, 5, .inl (fun j => nI ((g 7) j)))),
   ((a 8), .inl (cI, 5, .inl (fun j => nI ((g 8) j)))),
   ((a 9), .inl (cI, 5, .inl (fun j => ly_h ((g 9) j)))),
   ((t 6), .inr (2, [.ref (t 10), .ref (t 11), .ref (t 12), pv, .int (nI s0), .int an])),
   ((t 10), .inl (cI, 3072, .inl wf)),
   ((t 11), .inl (cI, 6, .inl lf)),
   ((t 12), .inl (cI, 6, .inl rf)),
   ((t 7), .inl (cN, 2, .inr (.inr (.inr (.inr (fun j => some (ia j 0))))))),
   ((t 8), .inl (cZ, 2, .inl (fun j => nI (kp j)))),
   ((ia 0 0), .inr (3, [.int (nI (jd 0 0)), .int (nI (jd 0 1)), .int (nI (jd 0 2)), .int (nI (jd 0 3)), .int (nI (jd 0 4)), .ref (ia 0 1), .ref (ia 0 2)])),
   ((ia 0 1), .inl (cI, 9, .inl (fun j => ly_h (jh 0 j)))),
   ((ia 0 2), .inl (cI, 9, .inl (fun j => nI (jl 0 j)))),
   ((ia 1 0), .inr (3, [.int (nI (jd 1 0)), .int (nI (jd 1 1)), .int (nI (jd 1 2)), .int (nI (jd 1 3)), .int (nI (jd 1 4)), .ref (ia 1 1), .ref (ia 1 2)])),
   ((ia 1 1), .inl (cI, 9, .inl (fun j => ly_h (jh 1 j)))),
   ((ia 1 2), .inl (cI, 9, .inl (fun j => nI (jl 1 j)))),
   ((ba 0 0), .inr (3, [.int (nI (sd 0 0)), .int (nI (sd 0 1)), .int (nI (sd 0 2)), .int (nI (sd 0 3)), .int (nI (sd 0 4)), .ref (ba 0 1), .ref (ba 0 2)])),
   ((ba 0 1), .inl (cI, 9, .inl (fun j => ly_h (sh 0 j)))),
   ((ba 0 2), .inl (cI, 9, .inl (fun j => nI (sl 0 j)))),
   ((ba 1 0), .inr (3, [.int (nI (sd 1 0)), .int (nI (sd 1 1)), .int (nI (sd 1 2)), .int (nI (sd 1 3)), .int (nI (sd 1 4)), .ref (ba 1 1), .ref (ba 1 2)])),
   ((ba 1 1), .inl (cI, 9, .inl (fun j => ly_h (sh 1 j)))),
   ((ba 1 2), .inl (cI, 9, .inl (fun j => nI (sl 1 j)))),
   ((ba 2 0), .inr (3, [.int (nI (sd 2 0)), .int (nI (sd 2 1)), .int (nI (sd 2 2)), .int (nI (sd 2 3)), .int (nI (sd 2 4)), .ref (ba 2 1), .ref (ba 2 2)])),
   ((ba 2 1), .inl (cI, 9, .inl (fun j => ly_h (sh 2 j)))),
   ((ba 2 2), .inl (cI, 9, .inl (fun j => nI (sl 2 j)))),
   ((ba 3 0), .inr (3, [.int (nI (sd 3 0)), .int (nI (sd 3 1)), .int (nI (sd 3 2)), .int (nI (sd 3 3)), .int (nI (sd 3 4)), .ref (ba 3 1), .ref (ba 3 2)])),
   ((ba 3 1), .inl (cI, 9, .inl (fun j => ly_h (sh 3 j)))),
   ((ba 3 2), .inl (cI, 9, .inl (fun j => nI (sl 3 j)))),
   ((ba 4 0), .inr (3, [.int (nI (sd 4 0)), .int (nI (sd 4 1)), .int (nI (sd 4 2)), .int (nI (sd 4 3)), .int (nI (sd 4 4)), .ref (ba 4 1), .ref (ba 4 2)])),
   ((ba 4 1), .inl (cI, 9, .inl (fun j => ly_h (sh 4 j)))),
   ((ba 4 2), .inl (cI, 9, .inl (fun j => nI (sl 4 j)))),
   ((ba 5 0), .inr (3, [.int (nI (sd 5 0)), .int (nI (sd 5 1)), .int (nI (sd 5 2)), .int (nI (sd 5 3)), .int (nI (sd 5 4)), .ref (ba 5 1), .ref (ba 5 2)])),
   ((ba 5 1), .inl (cI, 9, .inl (fun j => ly_h (sh 5 j)))),
   ((ba 5 2), .inl (cI, 9, .inl (fun j => nI (sl 5 j)))),
   ((ba 6 0), .inr (3, [.int (nI (sd 6 0)), .int (nI (sd 6 1)), .int (nI (sd 6 2)), .int (nI (sd 6 3)), .int (nI (sd 6 4)), .ref (ba 6 1), .ref (ba 6 2)])),
   ((ba 6 1), .inl (cI, 9, .inl (fun j => ly_h (sh 6 j)))),
   ((ba 6 2), .inl (cI, 9, .inl (fun j => nI (sl 6 j)))),
   ((ba 7 0), .inr (3, [.int (nI (sd 7 0)), .int (nI (sd 7 1)), .int (nI (sd 7 2)), .int (nI (sd 7 3)), .int (nI (sd 7 4)), .ref (ba 7 1), .ref (ba 7 2)])),
   ((ba 7 1), .inl (cI, 9, .inl (fun j => ly_h (sh 7 j)))),
   ((ba 7 2), .inl (cI, 9, .inl (fun j => nI (sl 7 j)))),
   ((ba 8 0), .inr (3, [.int (nI (sd 8 0)), .int (nI (sd 8 1)), .int (nI (sd 8 2)), .int (nI (sd 8 3)), .int (nI (sd 8 4)), .ref (ba 8 1), .ref (ba 8 2)])),
   ((ba 8 1), .inl (cI, 9, .inl (fun j => ly_h (sh 8 j)))),
   ((ba 8 2), .inl (cI, 9, .inl (fun j => nI (sl 8 j)))),
   ((ba 9 0), .inr (3, [.int (nI (sd 9 0)), .int (nI (sd 9 1)), .int (nI (sd 9 2)), .int (nI (sd 9 3)), .int (nI (sd 9 4)), .ref (ba 9 1), .ref (ba 9 2)])),
   ((ba 9 1), .inl (cI, 9, .inl (fun j => ly_h (sh 9 j)))),
   ((ba 9 2), .inl (cI, 9, .inl (fun j => nI (sl 9 j))))]
def mw (cI cZ : ClassId) (oA : Nat → Nat) (M : Nat → Nat → Nat) (mi : Nat → Nat) (fa : Int32) (mt : Int64) : va_W :=
  [((oA 0), .inr (7, [.int 0, .long mt, .ref (oA 2), .int (nI (mi 3)), .int (nI (mi 4)), .int (nI (mi 5)), .int (nI (mi 6)), .int (nI (mi 7)), .int fa, .ref (oA 9), .ref (oA 10), .ref (oA 11), .ref (oA 12), .ref (oA 13), .ref (oA 14), .ref (oA 15), .ref (oA 16), .ref (oA 17), .ref (oA 18), .int (nI (mi 19)), .ref (oA 20), .ref (oA 21), .ref (oA 22), .ref (oA 23), .int (nI (mi 24)), .ref (oA 25), .ref (oA 26), .ref (oA 27), .int (nI (mi 28)), .ref (oA 29), .ref (oA 30), .int (nI (mi 31)), .ref (oA 32), .int (nI (mi 33)), .int (nI (mi 34))])),
   ((oA 2), .inl (cI, 180, .inl (fun j => nI ((M 2) j)))),
   ((oA 9), .inl (cI, 4, .inl (fun j => nI ((M 9) j)))),
   ((oA 10), .inl (cI, 18, .inl (fun j => nI ((M 10) j)))),
   ((oA 11), .inl (cI, 18, .inl (fun j => nI ((M 11) j)))),
   ((oA 12), .inl (cI, 18, .inl (fun j => nI ((M 12) j)))),
   ((oA 13), .inl (cI, 12, .inl (fun j => nI ((M 13) j)))),
   ((oA 14), .inl (cI, 12, .inl (fun j => nI ((M 14) j)))),
   ((oA 15), .inl (cI, 12, .inl (fun j => nI ((M 15) j)))),
   ((oA 16), .inl (cI, 10, .inl (fun j => nI ((M 16) j)))),
   ((oA 17), .inl (cI, 10, .inl (fun j => nI ((M 17) j)))),
   ((oA 18), .inl (cI, 5, .inl (fun j => nI ((M 18) j)))),
   ((oA 20), .inl (cI, 23, .inl (fun j => nI ((M 20) j)))),
   ((oA 21), .inl (cI, 46, .inl (fun j => nI ((M 21) j)))),
   ((oA 22), .inl (cZ, 2, .inl (fun j => nI ((M 22) j)))),
   ((oA 23), .inl (cI, 230, .inl (fun j => nI ((M 23) j)))),
   ((oA 25), .inl (cI, 6, .inl (fun j => nI ((M 25) j)))),
   ((oA 26), .inl (cI, 6, .inl (fun j => nI ((M 26) j)))),
   ((oA 27), .inl (cI, 6, .inl (fun j => nI ((M 27) j)))),
   ((oA 29), .inl (cI, 5, .inl (fun j => nI ((M 29) j)))),
   ((oA 30), .inl (cI, 5, .inl (fun j => nI ((M 30) j)))),
   ((oA 32), .inl (cI, 3584, .inl (fun j => nI ((M 32) j))))]
def XInv (cI cC cZ cN : ClassId) (x0 m0 : Nat) (wX wM : va_W) : Prop :=
  ∃ (t a a2 b : Nat → Nat) (ba ia : Nat → Nat → Nat) (lt nx kn s0 : Nat) (tr : Int64) (an : Int32) (xv iv pv : Value) (tx nm rr : Nat → Nat) (g g2 : Nat → Nat → Nat) (d ho le : Nat → Nat) (sd sh sl : Nat → Nat → Nat) (hv kp : Nat → Nat) (jd jh jl : Nat → Nat → Nat) (wf lf rf : Nat → Int32) (oA : Nat → Nat) (M : Nat → Nat → Nat) (mi : Nat → Nat) (fa : Int32) (mt : Int64), x0 = t 0 ∧ m0 = oA 0 ∧ wX = cw cI cC cZ cN t a a2 b ba ia lt nx kn s0 tr an xv iv pv tx nm rr g g2 d ho le sd sh sl hv kp jd jh jl wf lf rf ∧ wM = mw cI cZ oA M mi fa mt ∧ REL lt (rr 3) nx kn tr tx g g2 d ho le sd sh sl hv kp jd jh jl M mi mt
/-- all that is said of one world is said of another -/
def lsub (w w2 : va_W) : Prop := ∀ (D : va_G) (H : Heap) (A : Nat → Prop), (va_P D vwCl w H → va_P D vwCl w2 H) ∧ (va_D A w → va_D A w2)
theorem lsub.rf {w : va_W} : lsub w w := fun _ _ _ => ⟨id, id⟩
theorem lsub.of {w w2 : va_W} (is : List Nat) (h : is.map (fun i => w[i]?) = w2.map some) (hn : va_nd is = true) : lsub w w2 := fun _ _ _ => ⟨fun hP => hP.sub is (ly_fm h), fun hD => hD.sub is hn h⟩
abbrev xPre (D : va_G) (tys : List (ClassId × FieldType)) (ws : va_W) (av : List Value) (ts : Nat → Nat) : Array Value → State → Prop := ly_PreX D tys ws av (st_Z ts (ly_in ws))
/-- a writing contract in a wider world, cell by cell -/
theorem ly_wZ {ζ : Type} {l : Launch} {y : MethodName} {cs : List Cond} {D : va_G} {ws wc : va_W} {h h2 : Nat} {post : Option Value → va_W → Prop} {rv : Value} {wc2 ws2 : ζ → va_W} {Pc Pc2 : Array Value → State → Prop} (hM : Met l y cs (ly_rm h) Pc (ly_Q D wc post) 0 0 (ly_in wc)) (hh : h ≤ h2) (hPc : ∀ a s, Pc2 a s → Pc a s ∧ va_P D vwCl ws s.heap) (hD : va_D (fun _ => True) ws) (isC isR : List Nat) (n : Nat) (hC : isC.map (fun i => ws[i]?) = wc.map some) (hp : ∀ r w, post r w → r = some rv ∧ ∃ z, w = wc2 z) (hC2 : ∀ z, isC.map (fun i => (ws2 z)[i]?) = (wc2 z).map some) (hR2 : ∀ z, isR.map (fun i => (ws2 z)[i]?) = isR.map (fun i => ws[i]?)) (hl : ∀ z, (ws2 z).length = n) (hcov : (List.range n).all (fun i => isC.contains i || isR.contains i) = true) (hnd : va_nd (isR ++ isC) = true) (ha : ∀ z, (ws2 z).map (·.1) = ws.map (·.1)) :
    Met l y cs (ly_rm h2) Pc2 (ly_Q D ws (fun r w => r = some rv ∧ ∃ z, w = ws2 z)) 0 0 (ly_in ws) := by
  have hin : ∀ q, ly_in wc q → ly_in ws q := by
    rintro q ⟨k, e, hq⟩
    obtain ⟨i, -, h3⟩ := ly_of_map hC hq
    exact ⟨i, e, h3⟩
  refine ly_up hM hh (Nat.mul_le_mul_left 40 hh) (Nat.le_refl _) (Nat.le_refl _) (fun a s hp => (hPc a s hp).1) (fun a s o t hp2 hq => ?_) hin
  obtain ⟨r, w1, e1, e2, e3, e4, e5, e6⟩ := hq
  obtain ⟨f1, z, f2⟩ := hp r w1 e2
  subst f2
  have hP0 := (hPc a s hp2).2
  refine ⟨r, ws2 z, e1, ⟨f1, z, rfl⟩, ha z, ?_, e5, fun q g1 g2 => e6 q g1 (fun y => g2 (hin q y))⟩
  intro k q hk
  have hkn : k < n := by rw [← hl z]; exact (List.getElem?_eq_some_iff.mp hk).1
  have hc := List.all_eq_true.mp hcov k (List.mem_range.mpr hkn)
  rw [Bool.or_eq_true] at hc
  by_cases hkC : isC.contains k = true
  · obtain ⟨j, hj⟩ := List.getElem?_of_mem (List.contains_iff_mem.mp hkC)
    have h1 : (isC.map (fun i => (ws2 z)[i]?))[j]? = some (some q) := by rw [List.getElem?_map, hj]; show some ((ws2 z)[k]?) = _; rw [hk]
    rw [hC2 z, List.getElem?_map] at h1
    cases h2 : (wc2 z)[j]? with
    | none => rw [h2] at h1; cases h1
    | some x =>
      rw [h2] at h1
      have h3 : x = q := Option.some.inj (Option.some.inj h1)
      rw [h3] at h2
      exact e4 j q h2
  · have hkR : isR.contains k = true := hc.elim (fun y => absurd y hkC) id
    obtain ⟨j, hj⟩ := List.getElem?_of_mem (List.contains_iff_mem.mp hkR)
    have h1 : (isR.map (fun i => (ws2 z)[i]?))[j]? = some ((ws2 z)[k]?) := by rw [List.getElem?_map, hj]; rfl
    rw [hR2 z, List.getElem?_map, hj] at h1
    have h2 : ws[k]? = some q := by rw [← hk]; exact Option.some.inj h1
    refine (hP0 k q h2).kept (e6 q.1 (hP0 k q h2).lt (fun ⟨k2, e, h3⟩ => ?_))
    obtain ⟨i, h4, h5⟩ := ly_of_map hC h3
    have h6 := hD.1 k i q (q.1, e) h2 h5 rfl
    rw [← h6] at h4
    exact hkC (List.contains_iff_mem.mpr (List.mem_of_getElem? h4))
theorem ly_rdQ {l : Launch} {y : MethodName} {cs : List Cond} {D : va_G} {ws wc : va_W} {h h2 : Nat} {rv : Value} {Pc Pc2 : Array Value → State → Prop} (hM : Met l y cs (ly_rm h) Pc (ly_Q D wc (fun r w => r = some rv ∧ w = wc)) 0 0 (ly_in wc)) (hh : h ≤ h2) (hPc : ∀ a s, Pc2 a s → Pc a s ∧ va_P D vwCl ws s.heap) (hD : va_D (fun _ => True) ws) (isC : List Nat) (hC : isC.map (fun i => ws[i]?) = wc.map some) :
    Met l y cs (ly_rm h2) Pc2 (ly_Q D ws (fun r w => r = some rv ∧ w = ws)) 0 0 (ly_in ws) := by
  have hin : ∀ q, ly_in wc q → ly_in ws q := by
    rintro q ⟨k, e, hq⟩
    obtain ⟨i, -, h3⟩ := ly_of_map hC hq
    exact ⟨i, e, h3⟩
  refine ly_up hM hh (Nat.mul_le_mul_left 40 hh) (Nat.le_refl _) (Nat.le_refl _) (fun a s hp => (hPc a s hp).1) (fun a s o t hp2 hq => ?_) hin
  obtain ⟨r, w1, e1, ⟨f1, f2⟩, e3, e4, e5, e6⟩ := hq
  subst f2
  have hP0 := (hPc a s hp2).2
  refine ⟨r, ws, e1, ⟨f1, rfl⟩, rfl, ?_, e5, fun q g1 g2 => e6 q g1 (fun y => g2 (hin q y))⟩
  intro k q hk
  by_cases hq : ly_in w1 q.1
  · obtain ⟨k2, e, h3⟩ := hq
    obtain ⟨i, h4, h5⟩ := ly_of_map hC h3
    have h6 := hD.1 k i q (q.1, e) hk h5 rfl
    subst h6
    rw [hk] at h5
    have h7 : q = (q.1, e) := Option.some.inj h5
    rw [← h7] at h3
    exact e4 k2 q h3
  · exact (hP0 k q hk).kept (e6 q.1 (hP0 k q hk).lt hq)
theorem ly_rdX {l : Launch} {y : MethodName} {cs : List Cond} {D : va_G} {wc : va_W} {h : Nat} {x : Int32} {Pc : Array Value → State → Prop} (hM : Met l y cs (ly_rm h) Pc (QcRead x) 0 0 (fun _ => False)) (hPc : ∀ a s, Pc a s → va_P D vwCl wc s.heap) : Met l y cs (ly_rm h) Pc (ly_Q D wc (fun r w => r = some (.int x) ∧ w = wc)) 0 0 (ly_in wc) :=
  ly_up hM (Nat.le_refl _) (Nat.le_refl _) (Nat.le_refl _) (Nat.le_refl _) (fun _ _ h => h) (fun a s o t hp hq => ⟨some (.int x), wc, hq.1, ⟨rfl, rfl⟩, rfl, by rw [hq.2]; exact hPc a s hp, by rw [hq.2]; exact Nat.le_refl _, fun q _ _ => by rw [hq.2]⟩) (fun q hq => hq.elim)
section ST
variable {l : Launch} {D : va_G} {tys : List (ClassId × FieldType)} {ts : Nat → Nat} {yX yM : MethodName} {cX cM : List Cond} {As : List Value} {x0 m0 : Nat} {wX wM : va_W} {INV : va_W → va_W → Prop}
theorem xp {ws wc : va_W} {av : List Value} (isC : List Nat) (hC : isC.map (fun i => ws[i]?) = wc.map some) : ∀ a s, xPre D tys ws av ts a s → ly_Pre D tys wc av a s ∧ va_P D vwCl ws s.heap := fun _ _ hp => ⟨⟨hp.1.1, hp.1.2.1.sub isC (ly_fm hC), hp.1.2.2.1, hp.1.2.2.2⟩, hp.1.2.1⟩
theorem mp {ws wc : va_W} {av : List Value} (isC : List Nat) (hC : isC.map (fun i => ws[i]?) = wc.map some) : ∀ a s, ly_Pre D tys ws av a s → ly_Pre D tys wc av a s ∧ va_P D vwCl ws s.heap := fun _ _ hp => ⟨⟨hp.1, hp.2.1.sub isC (ly_fm hC), hp.2.2.1, hp.2.2.2⟩, hp.2.1⟩
/-- one call of both -/
def stp (l : Launch) (D : va_G) (tys : List (ClassId × FieldType)) (ts : Nat → Nat) (yX : MethodName) (cX : List Cond) (yM : MethodName) (cM : List Cond) (As : List Value) (x0 m0 : Nat) (wX wM : va_W) (INV : va_W → va_W → Prop) : Prop :=
  ∃ (rv : Value) (PX PM : va_W → Prop), (∃ x : Int32, rv = .int x) ∧ Met l yX cX (ly_rm 40) (xPre D tys wX (.ref x0 :: As) ts) (ly_Q D wX (fun r w => r = some rv ∧ PX w)) 0 0 (ly_in wX) ∧ Met l yM cM (ly_rm 40) (ly_Pre D tys wM (.ref m0 :: As)) (ly_Q D wM (fun r w => r = some rv ∧ PM w)) 0 0 (ly_in wM) ∧ ∀ w w2, PX w → PM w2 → ∃ w3, lsub w w3 ∧ INV w3 w2
/-- one call of both that answers a long -/
def stpL (l : Launch) (D : va_G) (tys : List (ClassId × FieldType)) (ts : Nat → Nat) (yX : MethodName) (cX : List Cond) (yM : MethodName) (cM : List Cond) (As : List Value) (x0 m0 : Nat) (wX wM : va_W) (INV : va_W → va_W → Prop) : Prop :=
  ∃ (rv : Value) (PX PM : va_W → Prop), (∃ x : Int64, rv = .long x) ∧ Met l yX cX (ly_rm 40) (xPre D tys wX (.ref x0 :: As) ts) (ly_Q D wX (fun r w => r = some rv ∧ PX w)) 0 0 (ly_in wX) ∧ Met l yM cM (ly_rm 40) (ly_Pre D tys wM (.ref m0 :: As)) (ly_Q D wM (fun r w => r = some rv ∧ PM w)) 0 0 (ly_in wM) ∧ ∀ w w2, PX w → PM w2 → ∃ w3, lsub w w3 ∧ INV w3 w2
theorem stp_mk {rx rm : Value} {ζ η : Type} {fX : ζ → va_W} {fM : η → va_W} (hX : Met l yX cX (ly_rm 40) (xPre D tys wX (.ref x0 :: As) ts) (ly_Q D wX (fun r w => r = some rx ∧ ∃ z, w = fX z)) 0 0 (ly_in wX)) (hM : Met l yM cM (ly_rm 40) (ly_Pre D tys wM (.ref m0 :: As)) (ly_Q D wM (fun r w => r = some rm ∧ ∃ z, w = fM z)) 0 0 (ly_in wM)) (hv : rx = rm) (hI : ∀ z y, INV (fX z) (fM y)) (hi : ∃ x : Int32, rx = .int x := by exact ⟨_, rfl⟩) : stp l D tys ts yX cX yM cM As x0 m0 wX wM INV := by
  subst hv
  exact ⟨rx, _, _, hi, hX, hM, fun w w2 ⟨z, h1⟩ ⟨y, h2⟩ => ⟨fX z, by rw [h1]; exact lsub.rf, by rw [h2]; exact hI z y⟩⟩
/-- a call that both only read -/
theorem stp_rd {x y : Int32} {h1 h2 : Nat} {wc wm : va_W} (hX : Met l yX cX (ly_rm h1) (ly_Pre D tys wc (.ref x0 :: As)) (QcRead x) 0 0 (fun _ => False)) (hM : Met l yM cM (ly_rm h2) (ly_Pre D tys wm (.ref m0 :: As)) (ly_Q D wm (fun r w => r = some (.int y) ∧ w = wm)) 0 0 (ly_in wm)) (l1 : h1 ≤ 40) (l2 : h2 ≤ 40) (hDX : va_D (fun _ => True) wX) (hDM : va_D (fun _ => True) wM) (isC isM : List Nat) (hC : isC.map (fun i => wX[i]?) = wc.map some) (hCM : isM.map (fun i => wM[i]?) = wm.map some) (hv : x = y) (hI : INV wX wM) : stp l D tys ts yX cX yM cM As x0 m0 wX wM INV := by
  subst hv
  exact ⟨.int x, _, _, ⟨x, rfl⟩, ly_rdQ (ly_rdX hX (fun _ _ hp => hp.2.1)) l1 (xp isC hC) hDX isC hC, ly_rdQ hM l2 (mp isM hCM) hDM isM hCM, fun w w2 e1 e2 => ⟨wX, by rw [e1]; exact lsub.rf, by rw [e2]; exact hI⟩⟩
/-- a call that the class only reads -/
theorem xr {x : Int32} {h1 : Nat} {wc : va_W} (hX : Met l yX cX (ly_rm h1) (ly_Pre D tys wc (.ref x0 :: As)) (QcRead x) 0 0 (fun _ => False)) (l1 : h1 ≤ 40) (hDX : va_D (fun _ => True) wX) (isC : List Nat) (hC : isC.map (fun i => wX[i]?) = wc.map some) : Met l yX cX (ly_rm 40) (xPre D tys wX (.ref x0 :: As) ts) (ly_Q D wX (fun r w => r = some (.int x) ∧ ∃ z : Unit, w = (fun _ => wX) z)) 0 0 (ly_in wX) :=
  ly_up (ly_rdQ (ly_rdX hX (fun _ _ hp => hp.2.1)) l1 (xp isC hC) hDX isC hC) (Nat.le_refl _) (Nat.le_refl _) (Nat.le_refl _) (Nat.le_refl _) (fun _ _ h => h) (fun _ _ _ _ _ ⟨r, w, a1, a2, a3⟩ => ⟨r, w, a1, ⟨a2.1, (), a2.2⟩, a3⟩) (fun _ h => h)
theorem xw {rv : Value} {h1 : Nat} {wc wc2 wX2 : va_W} (hX : Met l yX cX (ly_rm h1) (ly_Pre D tys wc (.ref x0 :: As)) (ly_Q D wc (fun r w => r = some rv ∧ w = wc2)) 0 0 (ly_in wc)) (l1 : h1 ≤ 40) (hDX : va_D (fun _ => True) wX) (isC isR : List Nat) (n : Nat) (hC : isC.map (fun i => wX[i]?) = wc.map some) (hC2 : isC.map (fun i => wX2[i]?) = wc2.map some) (hR2 : isR.map (fun i => wX2[i]?) = isR.map (fun i => wX[i]?)) (hl : wX2.length = n) (hcov : (List.range n).all (fun i => isC.contains i || isR.contains i) = true) (hnd : va_nd (isR ++ isC) = true) (ha : wX2.map (·.1) = wX.map (·.1)) : Met l yX cX (ly_rm 40) (xPre D tys wX (.ref x0 :: As) ts) (ly_Q D wX (fun r w => r = some rv ∧ ∃ z : Unit, w = (fun _ => wX2) z)) 0 0 (ly_in wX) :=
  ly_wZ (ζ := Unit) (wc2 := fun _ => wc2) (ws2 := fun _ => wX2) hX l1 (xp isC hC) hDX isC isR n hC (fun r w hp => ⟨hp.1, (), hp.2⟩) (fun _ => hC2) (fun _ => hR2) (fun _ => hl) hcov hnd (fun _ => ha)
theorem mwr {rv : Value} {h1 : Nat} {wc wc2 wM2 : va_W} (hM : Met l yM cM (ly_rm h1) (ly_Pre D tys wc (.ref m0 :: As)) (ly_Q D wc (fun r w => r = some rv ∧ w = wc2)) 0 0 (ly_in wc)) (l1 : h1 ≤ 40) (hDM : va_D (fun _ => True) wM) (isC isR : List Nat) (n : Nat) (hC : isC.map (fun i => wM[i]?) = wc.map some) (hC2 : isC.map (fun i => wM2[i]?) = wc2.map some) (hR2 : isR.map (fun i => wM2[i]?) = isR.map (fun i => wM[i]?)) (hl : wM2.length = n) (hcov : (List.range n).all (fun i => isC.contains i || isR.contains i) = true) (hnd : va_nd (isR ++ isC) = true) (ha : wM2.map (·.1) = wM.map (·.1)) : Met l yM cM (ly_rm 40) (ly_Pre D tys wM (.ref m0 :: As)) (ly_Q D wM (fun r w => r = some rv ∧ ∃ z : Unit, w = (fun _ => wM2) z)) 0 0 (ly_in wM) :=
  ly_wZ (ζ := Unit) (wc2 := fun _ => wc2) (ws2 := fun _ => wM2) hM l1 (mp isC hC) hDM isC isR n hC (fun r w hp => ⟨hp.1, (), hp.2⟩) (fun _ => hC2) (fun _ => hR2) (fun _ => hl) hcov hnd (fun _ => ha)
end ST
theorem jin_out {y : Int32} {b : Nat} (hb : b < 2 ^ 31) (h : jin y 0 (nI b) = 0) : y.toInt < 0 ∨ (b : Int) < y.toInt := by
  unfold jin at h
  by_cases c : y < 0
  · left
    rw [Int32.lt_iff_toInt_lt] at c
    exact c
  · rw [if_neg c] at h
    by_cases c2 : nI b < y
    · right
      rw [Int32.lt_iff_toInt_lt, nI_toInt hb] at c2
      exact c2
    · rw [if_neg c2] at h
      exact absurd h (by decide)
