/-! the heap of a state -/
abbrev vI (x : Int) : Value := .int (eI x)
def rV (x : Option Nat) : Value := match x with
  | some a => .ref a
  | none => .null
def aI (N : Nat) (g : Int → Int32) : List Value := aF N fun n => g n
def aR (N : Nat) (g : Int → Option Nat) : List Value := (List.range N).map fun (n : Nat) => rV (g n)
def Cl.en : Cl → mn_C
  | .inl (k, r, v) => (k, r.map Value.ref ++ v.map Value.int)
  | .inr (.inl (N, f)) => (50, aI N f)
  | .inr (.inr (.inl k)) => (k, mt_df k)
  | .inr (.inr (.inr _)) => (99, [])
def fx (S : St) : mn_H := [(0, [.ref 1, .ref 13, .ref 28, .ref 30, .ref 35, .int (S.F0 0 5), .int (S.F0 0 6)]), (1, [.ref 2, .int (S.F0 1 1), .ref 3, .int (S.F0 1 3), .int (S.F0 1 4), .int (S.F0 1 5), .ref 10, .ref 11, .int (S.F0 1 8), .int (S.F0 1 9), .int (S.F0 1 10), .ref 12, .int (S.F0 1 12)]), (52, aI 160 (S.A0 2)), (2, [.ref 4, .ref 5, .ref 6, .ref 7, .ref 8, .int (S.F0 3 5), .ref 9, .int (S.F0 3 7)]), (50, aI 160 (S.A0 4)), (50, aI 160 (S.A0 5)), (50, aI 160 (S.A0 6)), (50, aI 160 (S.A0 7)), (50, aI 160 (S.A0 8)), (50, aI 1280 (S.A0 9)), (50, aI 10 (S.A0 10)), (50, aI 10 (S.A0 11)), (50, aI 16 (S.A0 12)), (3, [.ref 14, .int (S.F0 13 1), .int (S.F0 13 2), .int (S.F0 13 3), .int (S.F0 13 4), .int (S.F0 13 5), .int (S.F0 13 6), .int (S.F0 13 7), .int (S.F0 13 8), .ref 15, .ref 20, .ref 23, .ref 27]), (55, aR 100 (S.R 14)), (4, [.ref 16, .ref 19, .int (S.F0 15 2), .int (S.F0 15 3)]), (5, [.ref 17, .ref 18, .int (S.F0 16 2), .int (S.F0 16 3)]), (50, aI 80 (S.A0 17)), (50, aI 5 (S.A0 18)), (50, aI 128 (S.A0 19)), (6, [.ref 21, .ref 22]), (50, aI 32 (S.A0 21)), (50, aI 32 (S.A0 22)), (7, [.ref 24, .ref 25, .ref 26]), (50, aI 64 (S.A0 24)), (50, aI 64 (S.A0 25)), (50, aI 4 (S.A0 26)), (51, aI 100 (S.A0 27)), (8, [.ref 29, .int (S.F0 28 1)]), (52, aI 128 (S.A0 29)), (4, [.ref 31, .ref 34, .int (S.F0 30 2), .int (S.F0 30 3)]), (5, [.ref 32, .ref 33, .int (S.F0 31 2), .int (S.F0 31 3)]), (50, aI 80 (S.A0 32)), (50, aI 5 (S.A0 33)), (50, aI 128 (S.A0 34)), (54, aR 24 (S.R 35)), (10, [.int (S.F0 36 0), .int (S.F0 36 1), .int (S.F0 36 2), .ref 37, .ref 38, .ref 39, .ref 40, .ref 41, .ref 42, .int (S.F0 36 9), .int (S.F0 36 10), .ref 43, .ref 44, .ref 45, .int (S.F0 36 14), .int (S.F0 36 15), .int (S.F0 36 16), .int (S.F0 36 17), .int (S.F0 36 18), .int (S.F0 36 19), .int (S.F0 36 20), .ref 46, .int (S.F0 36 22), .ref 47, .int (S.F0 36 24), .ref 48, .ref 49, .int (S.F0 36 27), .int (S.F0 36 28), .int (S.F0 36 29), .int (S.F0 36 30), .ref 50, .ref 51, .ref 52, .int (S.F0 36 34), .int (S.F0 36 35), .int (S.F0 36 36), .ref 53, .ref 54, .ref 55, .ref 56, .ref 57, .int (S.F0 36 42), .int (S.F0 36 43), .ref 58, .ref 59, .int (S.F0 36 46), .ref 60, .ref 61, .ref 62, .ref 63, .ref 64, .ref 65, .ref 66, .ref 67, .ref 68, .int (S.F0 36 56), .ref 69, .ref 70]), (50, aI 160 (S.A0 37)), (50, aI 8032 (S.A0 38)), (50, aI 504 (S.A0 39)), (51, aI 504 (S.A0 40)), (50, aI 125 (S.A0 41)), (50, aI 125 (S.A0 42)), (50, aI 100 (S.A0 43)), (50, aI 100 (S.A0 44)), (50, aI 400 (S.A0 45)), (50, aI 1024 (S.A0 46)), (50, aI 128 (S.A0 47)), (50, aI 100 (S.A0 48)), (51, aI 100 (S.A0 49)), (50, aI 50 (S.A0 50)), (50, aI 50 (S.A0 51)), (51, aI 50 (S.A0 52)), (50, aI 16 (S.A0 53)), (50, aI 10 (S.A0 54)), (51, aI 10 (S.A0 55)), (51, aI 10 (S.A0 56)), (50, aI 10 (S.A0 57)), (50, aI 300 (S.A0 58)), (50, aI 2400 (S.A0 59)), (50, aI 100 (S.A0 60)), (51, aI 100 (S.A0 61)), (50, aI 64 (S.A0 62)), (50, aI 64 (S.A0 63)), (50, aI 128 (S.A0 64)), (50, aI 640 (S.A0 65)), (50, aI 640 (S.A0 66)), (50, aI 640 (S.A0 67)), (50, aI 16 (S.A0 68)), (50, aI 400 (S.A0 69)), (51, aI 100 (S.A0 70)), (53, [.long S.O])]
def Hp (S : St) : mn_H := fx S ++ S.tl.map Cl.en
theorem hp0 (S : St) : (Hp S)[0]? = some (0, [.ref 1, .ref 13, .ref 28, .ref 30, .ref 35, .int (S.F0 0 5), .int (S.F0 0 6)]) := rfl
theorem hp1 (S : St) : (Hp S)[1]? = some (1, [.ref 2, .int (S.F0 1 1), .ref 3, .int (S.F0 1 3), .int (S.F0 1 4), .int (S.F0 1 5), .ref 10, .ref 11, .int (S.F0 1 8), .int (S.F0 1 9), .int (S.F0 1 10), .ref 12, .int (S.F0 1 12)]) := rfl
theorem hp2 (S : St) : (Hp S)[2]? = some (52, aI 160 (S.A0 2)) := rfl
theorem hp3 (S : St) : (Hp S)[3]? = some (2, [.ref 4, .ref 5, .ref 6, .ref 7, .ref 8, .int (S.F0 3 5), .ref 9, .int (S.F0 3 7)]) := rfl
theorem hp4 (S : St) : (Hp S)[4]? = some (50, aI 160 (S.A0 4)) := rfl
theorem hp5 (S : St) : (Hp S)[5]? = some (50, aI 160 (S.A0 5)) := rfl
theorem hp6 (S : St) : (Hp S)[6]? = some (50, aI 160 (S.A0 6)) := rfl
theorem hp7 (S : St) : (Hp S)[7]? = some (50, aI 160 (S.A0 7)) := rfl
theorem hp8 (S : St) : (Hp S)[8]? = some (50, aI 160 (S.A0 8)) := rfl
theorem hp9 (S : St) : (Hp S)[9]? = some (50, aI 1280 (S.A0 9)) := rfl
theorem hp10 (S : St) : (Hp S)[10]? = some (50, aI 10 (S.A0 10)) := rfl
theorem hp11 (S : St) : (Hp S)[11]? = some (50, aI 10 (S.A0 11)) := rfl
theorem hp12 (S : St) : (Hp S)[12]? = some (50, aI 16 (S.A0 12)) := rfl
theorem hp13 (S : St) : (Hp S)[13]? = some (3, [.ref 14, .int (S.F0 13 1), .int (S.F0 13 2), .int (S.F0 13 3), .int (S.F0 13 4), .int (S.F0 13 5), .int (S.F0 13 6), .int (S.F0 13 7), .int (S.F0 13 8), .ref 15, .ref 20, .ref 23, .ref 27]) := rfl
theorem hp14 (S : St) : (Hp S)[14]? = some (55, aR 100 (S.R 14)) := rfl
theorem hp15 (S : St) : (Hp S)[15]? = some (4, [.ref 16, .ref 19, .int (S.F0 15 2), .int (S.F0 15 3)]) := rfl
theorem hp16 (S : St) : (Hp S)[16]? = some (5, [.ref 17, .ref 18, .int (S.F0 16 2), .int (S.F0 16 3)]) := rfl
theorem hp17 (S : St) : (Hp S)[17]? = some (50, aI 80 (S.A0 17)) := rfl
theorem hp18 (S : St) : (Hp S)[18]? = some (50, aI 5 (S.A0 18)) := rfl
theorem hp19 (S : St) : (Hp S)[19]? = some (50, aI 128 (S.A0 19)) := rfl
theorem hp20 (S : St) : (Hp S)[20]? = some (6, [.ref 21, .ref 22]) := rfl
theorem hp21 (S : St) : (Hp S)[21]? = some (50, aI 32 (S.A0 21)) := rfl
theorem hp22 (S : St) : (Hp S)[22]? = some (50, aI 32 (S.A0 22)) := rfl
theorem hp23 (S : St) : (Hp S)[23]? = some (7, [.ref 24, .ref 25, .ref 26]) := rfl
theorem hp24 (S : St) : (Hp S)[24]? = some (50, aI 64 (S.A0 24)) := rfl
theorem hp25 (S : St) : (Hp S)[25]? = some (50, aI 64 (S.A0 25)) := rfl
theorem hp26 (S : St) : (Hp S)[26]? = some (50, aI 4 (S.A0 26)) := rfl
theorem hp27 (S : St) : (Hp S)[27]? = some (51, aI 100 (S.A0 27)) := rfl
theorem hp28 (S : St) : (Hp S)[28]? = some (8, [.ref 29, .int (S.F0 28 1)]) := rfl
theorem hp29 (S : St) : (Hp S)[29]? = some (52, aI 128 (S.A0 29)) := rfl
theorem hp30 (S : St) : (Hp S)[30]? = some (4, [.ref 31, .ref 34, .int (S.F0 30 2), .int (S.F0 30 3)]) := rfl
theorem hp31 (S : St) : (Hp S)[31]? = some (5, [.ref 32, .ref 33, .int (S.F0 31 2), .int (S.F0 31 3)]) := rfl
theorem hp32 (S : St) : (Hp S)[32]? = some (50, aI 80 (S.A0 32)) := rfl
theorem hp33 (S : St) : (Hp S)[33]? = some (50, aI 5 (S.A0 33)) := rfl
theorem hp34 (S : St) : (Hp S)[34]? = some (50, aI 128 (S.A0 34)) := rfl
theorem hp35 (S : St) : (Hp S)[35]? = some (54, aR 24 (S.R 35)) := rfl
theorem hp36 (S : St) : (Hp S)[36]? = some (10, [.int (S.F0 36 0), .int (S.F0 36 1), .int (S.F0 36 2), .ref 37, .ref 38, .ref 39, .ref 40, .ref 41, .ref 42, .int (S.F0 36 9), .int (S.F0 36 10), .ref 43, .ref 44, .ref 45, .int (S.F0 36 14), .int (S.F0 36 15), .int (S.F0 36 16), .int (S.F0 36 17), .int (S.F0 36 18), .int (S.F0 36 19), .int (S.F0 36 20), .ref 46, .int (S.F0 36 22), .ref 47, .int (S.F0 36 24), .ref 48, .ref 49, .int (S.F0 36 27), .int (S.F0 36 28), .int (S.F0 36 29), .int (S.F0 36 30), .ref 50, .ref 51, .ref 52, .int (S.F0 36 34), .int (S.F0 36 35), .int (S.F0 36 36), .ref 53, .ref 54, .ref 55, .ref 56, .ref 57, .int (S.F0 36 42), .int (S.F0 36 43), .ref 58, .ref 59, .int (S.F0 36 46), .ref 60, .ref 61, .ref 62, .ref 63, .ref 64, .ref 65, .ref 66, .ref 67, .ref 68, .int (S.F0 36 56), .ref 69, .ref 70]) := rfl
theorem hp37 (S : St) : (Hp S)[37]? = some (50, aI 160 (S.A0 37)) := rfl
theorem hp38 (S : St) : (Hp S)[38]? = some (50, aI 8032 (S.A0 38)) := rfl
theorem hp39 (S : St) : (Hp S)[39]? = some (50, aI 504 (S.A0 39)) := rfl
theorem hp40 (S : St) : (Hp S)[40]? = some (51, aI 504 (S.A0 40)) := rfl
theorem hp41 (S : St) : (Hp S)[41]? = some (50, aI 125 (S.A0 41)) := rfl
theorem hp42 (S : St) : (Hp S)[42]? = some (50, aI 125 (S.A0 42)) := rfl
theorem hp43 (S : St) : (Hp S)[43]? = some (50, aI 100 (S.A0 43)) := rfl
theorem hp44 (S : St) : (Hp S)[44]? = some (50, aI 100 (S.A0 44)) := rfl
theorem hp45 (S : St) : (Hp S)[45]? = some (50, aI 400 (S.A0 45)) := rfl
theorem hp46 (S : St) : (Hp S)[46]? = some (50, aI 1024 (S.A0 46)) := rfl
theorem hp47 (S : St) : (Hp S)[47]? = some (50, aI 128 (S.A0 47)) := rfl
theorem hp48 (S : St) : (Hp S)[48]? = some (50, aI 100 (S.A0 48)) := rfl
theorem hp49 (S : St) : (Hp S)[49]? = some (51, aI 100 (S.A0 49)) := rfl
theorem hp50 (S : St) : (Hp S)[50]? = some (50, aI 50 (S.A0 50)) := rfl
theorem hp51 (S : St) : (Hp S)[51]? = some (50, aI 50 (S.A0 51)) := rfl
theorem hp52 (S : St) : (Hp S)[52]? = some (51, aI 50 (S.A0 52)) := rfl
theorem hp53 (S : St) : (Hp S)[53]? = some (50, aI 16 (S.A0 53)) := rfl
theorem hp54 (S : St) : (Hp S)[54]? = some (50, aI 10 (S.A0 54)) := rfl
theorem hp55 (S : St) : (Hp S)[55]? = some (51, aI 10 (S.A0 55)) := rfl
theorem hp56 (S : St) : (Hp S)[56]? = some (51, aI 10 (S.A0 56)) := rfl
theorem hp57 (S : St) : (Hp S)[57]? = some (50, aI 10 (S.A0 57)) := rfl
theorem hp58 (S : St) : (Hp S)[58]? = some (50, aI 300 (S.A0 58)) := rfl
theorem hp59 (S : St) : (Hp S)[59]? = some (50, aI 2400 (S.A0 59)) := rfl
theorem hp60 (S : St) : (Hp S)[60]? = some (50, aI 100 (S.A0 60)) := rfl
theorem hp61 (S : St) : (Hp S)[61]? = some (51, aI 100 (S.A0 61)) := rfl
theorem hp62 (S : St) : (Hp S)[62]? = some (50, aI 64 (S.A0 62)) := rfl
theorem hp63 (S : St) : (Hp S)[63]? = some (50, aI 64 (S.A0 63)) := rfl
theorem hp64 (S : St) : (Hp S)[64]? = some (50, aI 128 (S.A0 64)) := rfl
theorem hp65 (S : St) : (Hp S)[65]? = some (50, aI 640 (S.A0 65)) := rfl
theorem hp66 (S : St) : (Hp S)[66]? = some (50, aI 640 (S.A0 66)) := rfl
theorem hp67 (S : St) : (Hp S)[67]? = some (50, aI 640 (S.A0 67)) := rfl
theorem hp68 (S : St) : (Hp S)[68]? = some (50, aI 16 (S.A0 68)) := rfl
theorem hp69 (S : St) : (Hp S)[69]? = some (50, aI 400 (S.A0 69)) := rfl
theorem hp70 (S : St) : (Hp S)[70]? = some (51, aI 100 (S.A0 70)) := rfl
theorem hp71 (S : St) : (Hp S)[71]? = some (53, [.long S.O]) := rfl
set_option maxRecDepth 100000 in
theorem pf_0_5 (S : St) (x : Int) : (Hp S).set 0 (0, [.ref 1, .ref 13, .ref 28, .ref 30, .ref 35, .int (S.F0 0 5), .int (S.F0 0 6)].set 5 (vI x)) = Hp (S.f 0 5 x) := rfl
set_option maxRecDepth 100000 in
theorem pf_0_6 (S : St) (x : Int) : (Hp S).set 0 (0, [.ref 1, .ref 13, .ref 28, .ref 30, .ref 35, .int (S.F0 0 5), .int (S.F0 0 6)].set 6 (vI x)) = Hp (S.f 0 6 x) := rfl
set_option maxRecDepth 100000 in
theorem pf_1_1 (S : St) (x : Int) : (Hp S).set 1 (1, [.ref 2, .int (S.F0 1 1), .ref 3, .int (S.F0 1 3), .int (S.F0 1 4), .int (S.F0 1 5), .ref 10, .ref 11, .int (S.F0 1 8), .int (S.F0 1 9), .int (S.F0 1 10), .ref 12, .int (S.F0 1 12)].set 1 (vI x)) = Hp (S.f 1 1 x) := rfl
set_option maxRecDepth 100000 in
theorem pf_1_3 (S : St) (x : Int) : (Hp S).set 1 (1, [.ref 2, .int (S.F0 1 1), .ref 3, .int (S.F0 1 3), .int (S.F0 1 4), .int (S.F0 1 5), .ref 10, .ref 11, .int (S.F0 1 8), .int (S.F0 1 9), .int (S.F0 1 10), .ref 12, .int (S.F0 1 12)].set 3 (vI x)) = Hp (S.f 1 3 x) := rfl
set_option maxRecDepth 100000 in
theorem pf_1_4 (S : St) (x : Int) : (Hp S).set 1 (1, [.ref 2, .int (S.F0 1 1), .ref 3, .int (S.F0 1 3), .int (S.F0 1 4), .int (S.F0 1 5), .ref 10, .ref 11, .int (S.F0 1 8), .int (S.F0 1 9), .int (S.F0 1 10), .ref 12, .int (S.F0 1 12)].set 4 (vI x)) = Hp (S.f 1 4 x) := rfl
set_option maxRecDepth 100000 in
theorem pf_1_5 (S : St) (x : Int) : (Hp S).set 1 (1, [.ref 2, .int (S.F0 1 1), .ref 3, .int (S.F0 1 3), .int (S.F0 1 4), .int (S.F0 1 5), .ref 10, .ref 11, .int (S.F0 1 8), .int (S.F0 1 9), .int (S.F0 1 10), .ref 12, .int (S.F0 1 12)].set 5 (vI x)) = Hp (S.f 1 5 x) := rfl
set_option maxRecDepth 100000 in
theorem pf_1_8 (S : St) (x : Int) : (Hp S).set 1 (1, [.ref 2, .int (S.F0 1 1), .ref 3, .int (S.F0 1 3), .int (S.F0 1 4), .int (S.F0 1 5), .ref 10, .ref 11, .int (S.F0 1 8), .int (S.F0 1 9), .int (S.F0 1 10), .ref 12, .int (S.F0 1 12)].set 8 (vI x)) = Hp (S.f 1 8 x) := rfl
set_option maxRecDepth 100000 in
theorem pf_1_9 (S : St) (x : Int) : (Hp S).set 1 (1, [.ref 2, .int (S.F0 1 1), .ref 3, .int (S.F0 1 3), .int (S.F0 1 4), .int (S.F0 1 5), .ref 10, .ref 11, .int (S.F0 1 8), .int (S.F0 1 9), .int (S.F0 1 10), .ref 12, .int (S.F0 1 12)].set 9 (vI x)) = Hp (S.f 1 9 x) := rfl
set_option maxRecDepth 100000 in
theorem pf_1_10 (S : St) (x : Int) : (Hp S).set 1 (1, [.ref 2, .int (S.F0 1 1), .ref 3, .int (S.F0 1 3), .int (S.F0 1 4), .int (S.F0 1 5), .ref 10, .ref 11, .int (S.F0 1 8), .int (S.F0 1 9), .int (S.F0 1 10), .ref 12, .int (S.F0 1 12)].set 10 (vI x)) = Hp (S.f 1 10 x) := rfl
set_option maxRecDepth 100000 in
theorem pf_1_12 (S : St) (x : Int) : (Hp S).set 1 (1, [.ref 2, .int (S.F0 1 1), .ref 3, .int (S.F0 1 3), .int (S.F0 1 4), .int (S.F0 1 5), .ref 10, .ref 11, .int (S.F0 1 8), .int (S.F0 1 9), .int (S.F0 1 10), .ref 12, .int (S.F0 1 12)].set 12 (vI x)) = Hp (S.f 1 12 x) := rfl
set_option maxRecDepth 100000 in
theorem ps_2 (S : St) (i x : Int) : (Hp S).set 2 (52, aI 160 (upI (S.A0 2) i (eI x))) = Hp (S.a 2 i x) := rfl
set_option maxRecDepth 100000 in
theorem pf_3_5 (S : St) (x : Int) : (Hp S).set 3 (2, [.ref 4, .ref 5, .ref 6, .ref 7, .ref 8, .int (S.F0 3 5), .ref 9, .int (S.F0 3 7)].set 5 (vI x)) = Hp (S.f 3 5 x) := rfl
set_option maxRecDepth 100000 in
theorem pf_3_7 (S : St) (x : Int) : (Hp S).set 3 (2, [.ref 4, .ref 5, .ref 6, .ref 7, .ref 8, .int (S.F0 3 5), .ref 9, .int (S.F0 3 7)].set 7 (vI x)) = Hp (S.f 3 7 x) := rfl
set_option maxRecDepth 100000 in
theorem ps_4 (S : St) (i x : Int) : (Hp S).set 4 (50, aI 160 (upI (S.A0 4) i (eI x))) = Hp (S.a 4 i x) := rfl
set_option maxRecDepth 100000 in
theorem ps_5 (S : St) (i x : Int) : (Hp S).set 5 (50, aI 160 (upI (S.A0 5) i (eI x))) = Hp (S.a 5 i x) := rfl
set_option maxRecDepth 100000 in
theorem ps_6 (S : St) (i x : Int) : (Hp S).set 6 (50, aI 160 (upI (S.A0 6) i (eI x))) = Hp (S.a 6 i x) := rfl
set_option maxRecDepth 100000 in
theorem ps_7 (S : St) (i x : Int) : (Hp S).set 7 (50, aI 160 (upI (S.A0 7) i (eI x))) = Hp (S.a 7 i x) := rfl
set_option maxRecDepth 100000 in
theorem ps_8 (S : St) (i x : Int) : (Hp S).set 8 (50, aI 160 (upI (S.A0 8) i (eI x))) = Hp (S.a 8 i x) := rfl
set_option maxRecDepth 100000 in
theorem ps_9 (S : St) (i x : Int) : (Hp S).set 9 (50, aI 1280 (upI (S.A0 9) i (eI x))) = Hp (S.a 9 i x) := rfl
set_option maxRecDepth 100000 in
theorem ps_10 (S : St) (i x : Int) : (Hp S).set 10 (50, aI 10 (upI (S.A0 10) i (eI x))) = Hp (S.a 10 i x) := rfl
set_option maxRecDepth 100000 in
theorem ps_11 (S : St) (i x : Int) : (Hp S).set 11 (50, aI 10 (upI (S.A0 11) i (eI x))) = Hp (S.a 11 i x) := rfl
set_option maxRecDepth 100000 in
theorem ps_12 (S : St) (i x : Int) : (Hp S).set 12 (50, aI 16 (upI (S.A0 12) i (eI x))) = Hp (S.a 12 i x) := rfl
set_option maxRecDepth 100000 in
theorem pf_13_1 (S : St) (x : Int) : (Hp S).set 13 (3, [.ref 14, .int (S.F0 13 1), .int (S.F0 13 2), .int (S.F0 13 3), .int (S.F0 13 4), .int (S.F0 13 5), .int (S.F0 13 6), .int (S.F0 13 7), .int (S.F0 13 8), .ref 15, .ref 20, .ref 23, .ref 27].set 1 (vI x)) = Hp (S.f 13 1 x) := rfl
set_option maxRecDepth 100000 in
theorem pf_13_2 (S : St) (x : Int) : (Hp S).set 13 (3, [.ref 14, .int (S.F0 13 1), .int (S.F0 13 2), .int (S.F0 13 3), .int (S.F0 13 4), .int (S.F0 13 5), .int (S.F0 13 6), .int (S.F0 13 7), .int (S.F0 13 8), .ref 15, .ref 20, .ref 23, .ref 27].set 2 (vI x)) = Hp (S.f 13 2 x) := rfl
set_option maxRecDepth 100000 in
theorem pf_13_3 (S : St) (x : Int) : (Hp S).set 13 (3, [.ref 14, .int (S.F0 13 1), .int (S.F0 13 2), .int (S.F0 13 3), .int (S.F0 13 4), .int (S.F0 13 5), .int (S.F0 13 6), .int (S.F0 13 7), .int (S.F0 13 8), .ref 15, .ref 20, .ref 23, .ref 27].set 3 (vI x)) = Hp (S.f 13 3 x) := rfl
set_option maxRecDepth 100000 in
theorem pf_13_4 (S : St) (x : Int) : (Hp S).set 13 (3, [.ref 14, .int (S.F0 13 1), .int (S.F0 13 2), .int (S.F0 13 3), .int (S.F0 13 4), .int (S.F0 13 5), .int (S.F0 13 6), .int (S.F0 13 7), .int (S.F0 13 8), .ref 15, .ref 20, .ref 23, .ref 27].set 4 (vI x)) = Hp (S.f 13 4 x) := rfl
set_option maxRecDepth 100000 in
theorem pf_13_5 (S : St) (x : Int) : (Hp S).set 13 (3, [.ref 14, .int (S.F0 13 1), .int (S.F0 13 2), .int (S.F0 13 3), .int (S.F0 13 4), .int (S.F0 13 5), .int (S.F0 13 6), .int (S.F0 13 7), .int (S.F0 13 8), .ref 15, .ref 20, .ref 23, .ref 27].set 5 (vI x)) = Hp (S.f 13 5 x) := rfl
set_option maxRecDepth 100000 in
theorem pf_13_6 (S : St) (x : Int) : (Hp S).set 13 (3, [.ref 14, .int (S.F0 13 1), .int (S.F0 13 2), .int (S.F0 13 3), .int (S.F0 13 4), .int (S.F0 13 5), .int (S.F0 13 6), .int (S.F0 13 7), .int (S.F0 13 8), .ref 15, .ref 20, .ref 23, .ref 27].set 6 (vI x)) = Hp (S.f 13 6 x) := rfl
set_option maxRecDepth 100000 in
theorem pf_13_7 (S : St) (x : Int) : (Hp S).set 13 (3, [.ref 14, .int (S.F0 13 1), .int (S.F0 13 2), .int (S.F0 13 3), .int (S.F0 13 4), .int (S.F0 13 5), .int (S.F0 13 6), .int (S.F0 13 7), .int (S.F0 13 8), .ref 15, .ref 20, .ref 23, .ref 27].set 7 (vI x)) = Hp (S.f 13 7 x) := rfl
set_option maxRecDepth 100000 in
theorem pf_13_8 (S : St) (x : Int) : (Hp S).set 13 (3, [.ref 14, .int (S.F0 13 1), .int (S.F0 13 2), .int (S.F0 13 3), .int (S.F0 13 4), .int (S.F0 13 5), .int (S.F0 13 6), .int (S.F0 13 7), .int (S.F0 13 8), .ref 15, .ref 20, .ref 23, .ref 27].set 8 (vI x)) = Hp (S.f 13 8 x) := rfl
set_option maxRecDepth 100000 in
theorem pq_14 (S : St) (i : Int) (x : Option Nat) : (Hp S).set 14 (55, aR 100 (upI (S.R 14) i x)) = Hp (S.r 14 i x) := rfl
set_option maxRecDepth 100000 in
theorem pf_15_2 (S : St) (x : Int) : (Hp S).set 15 (4, [.ref 16, .ref 19, .int (S.F0 15 2), .int (S.F0 15 3)].set 2 (vI x)) = Hp (S.f 15 2 x) := rfl
set_option maxRecDepth 100000 in
theorem pf_15_3 (S : St) (x : Int) : (Hp S).set 15 (4, [.ref 16, .ref 19, .int (S.F0 15 2), .int (S.F0 15 3)].set 3 (vI x)) = Hp (S.f 15 3 x) := rfl
set_option maxRecDepth 100000 in
theorem pf_16_2 (S : St) (x : Int) : (Hp S).set 16 (5, [.ref 17, .ref 18, .int (S.F0 16 2), .int (S.F0 16 3)].set 2 (vI x)) = Hp (S.f 16 2 x) := rfl
set_option maxRecDepth 100000 in
theorem pf_16_3 (S : St) (x : Int) : (Hp S).set 16 (5, [.ref 17, .ref 18, .int (S.F0 16 2), .int (S.F0 16 3)].set 3 (vI x)) = Hp (S.f 16 3 x) := rfl
set_option maxRecDepth 100000 in
theorem ps_17 (S : St) (i x : Int) : (Hp S).set 17 (50, aI 80 (upI (S.A0 17) i (eI x))) = Hp (S.a 17 i x) := rfl
set_option maxRecDepth 100000 in
theorem ps_18 (S : St) (i x : Int) : (Hp S).set 18 (50, aI 5 (upI (S.A0 18) i (eI x))) = Hp (S.a 18 i x) := rfl
set_option maxRecDepth 100000 in
theorem ps_19 (S : St) (i x : Int) : (Hp S).set 19 (50, aI 128 (upI (S.A0 19) i (eI x))) = Hp (S.a 19 i x) := rfl
set_option maxRecDepth 100000 in
theorem ps_21 (S : St) (i x : Int) : (Hp S).set 21 (50, aI 32 (upI (S.A0 21) i (eI x))) = Hp (S.a 21 i x) := rfl
set_option maxRecDepth 100000 in
theorem ps_22 (S : St) (i x : Int) : (Hp S).set 22 (50, aI 32 (upI (S.A0 22) i (eI x))) = Hp (S.a 22 i x) := rfl
set_option maxRecDepth 100000 in
theorem ps_24 (S : St) (i x : Int) : (Hp S).set 24 (50, aI 64 (upI (S.A0 24) i (eI x))) = Hp (S.a 24 i x) := rfl
set_option maxRecDepth 100000 in
theorem ps_25 (S : St) (i x : Int) : (Hp S).set 25 (50, aI 64 (upI (S.A0 25) i (eI x))) = Hp (S.a 25 i x) := rfl
set_option maxRecDepth 100000 in
theorem ps_26 (S : St) (i x : Int) : (Hp S).set 26 (50, aI 4 (upI (S.A0 26) i (eI x))) = Hp (S.a 26 i x) := rfl
set_option maxRecDepth 100000 in
theorem ps_27 (S : St) (i x : Int) : (Hp S).set 27 (51, aI 100 (upI (S.A0 27) i (eI x))) = Hp (S.a 27 i x) := rfl
set_option maxRecDepth 100000 in
theorem pf_28_1 (S : St) (x : Int) : (Hp S).set 28 (8, [.ref 29, .int (S.F0 28 1)].set 1 (vI x)) = Hp (S.f 28 1 x) := rfl
set_option maxRecDepth 100000 in
theorem ps_29 (S : St) (i x : Int) : (Hp S).set 29 (52, aI 128 (upI (S.A0 29) i (eI x))) = Hp (S.a 29 i x) := rfl
set_option maxRecDepth 100000 in
theorem pf_30_2 (S : St) (x : Int) : (Hp S).set 30 (4, [.ref 31, .ref 34, .int (S.F0 30 2), .int (S.F0 30 3)].set 2 (vI x)) = Hp (S.f 30 2 x) := rfl
set_option maxRecDepth 100000 in
theorem pf_30_3 (S : St) (x : Int) : (Hp S).set 30 (4, [.ref 31, .ref 34, .int (S.F0 30 2), .int (S.F0 30 3)].set 3 (vI x)) = Hp (S.f 30 3 x) := rfl
set_option maxRecDepth 100000 in
theorem pf_31_2 (S : St) (x : Int) : (Hp S).set 31 (5, [.ref 32, .ref 33, .int (S.F0 31 2), .int (S.F0 31 3)].set 2 (vI x)) = Hp (S.f 31 2 x) := rfl
set_option maxRecDepth 100000 in
theorem pf_31_3 (S : St) (x : Int) : (Hp S).set 31 (5, [.ref 32, .ref 33, .int (S.F0 31 2), .int (S.F0 31 3)].set 3 (vI x)) = Hp (S.f 31 3 x) := rfl
set_option maxRecDepth 100000 in
theorem ps_32 (S : St) (i x : Int) : (Hp S).set 32 (50, aI 80 (upI (S.A0 32) i (eI x))) = Hp (S.a 32 i x) := rfl
set_option maxRecDepth 100000 in
theorem ps_33 (S : St) (i x : Int) : (Hp S).set 33 (50, aI 5 (upI (S.A0 33) i (eI x))) = Hp (S.a 33 i x) := rfl
set_option maxRecDepth 100000 in
theorem ps_34 (S : St) (i x : Int) : (Hp S).set 34 (50, aI 128 (upI (S.A0 34) i (eI x))) = Hp (S.a 34 i x) := rfl
set_option maxRecDepth 100000 in
theorem pq_35 (S : St) (i : Int) (x : Option Nat) : (Hp S).set 35 (54, aR 24 (upI (S.R 35) i x)) = Hp (S.r 35 i x) := rfl
set_option maxRecDepth 100000 in
theorem pf_36_0 (S : St) (x : Int) : (Hp S).set 36 (10, [.int (S.F0 36 0), .int (S.F0 36 1), .int (S.F0 36 2), .ref 37, .ref 38, .ref 39, .ref 40, .ref 41, .ref 42, .int (S.F0 36 9), .int (S.F0 36 10), .ref 43, .ref 44, .ref 45, .int (S.F0 36 14), .int (S.F0 36 15), .int (S.F0 36 16), .int (S.F0 36 17), .int (S.F0 36 18), .int (S.F0 36 19), .int (S.F0 36 20), .ref 46, .int (S.F0 36 22), .ref 47, .int (S.F0 36 24), .ref 48, .ref 49, .int (S.F0 36 27), .int (S.F0 36 28), .int (S.F0 36 29), .int (S.F0 36 30), .ref 50, .ref 51, .ref 52, .int (S.F0 36 34), .int (S.F0 36 35), .int (S.F0 36 36), .ref 53, .ref 54, .ref 55, .ref 56, .ref 57, .int (S.F0 36 42), .int (S.F0 36 43), .ref 58, .ref 59, .int (S.F0 36 46), .ref 60, .ref 61, .ref 62, .ref 63, .ref 64, .ref 65, .ref 66, .ref 67, .ref 68, .int (S.F0 36 56), .ref 69, .ref 70].set 0 (vI x)) = Hp (S.f 36 0 x) := rfl
set_option maxRecDepth 100000 in
theorem pf_36_1 (S : St) (x : Int) : (Hp S).set 36 (10, [.int (S.F0 36 0), .int (S.F0 36 1), .int (S.F0 36 2), .ref 37, .ref 38, .ref 39, .ref 40, .ref 41, .ref 42, .int (S.F0 36 9), .int (S.F0 36 10), .ref 43, .ref 44, .ref 45, .int (S.F0 36 14), .int (S.F0 36 15), .int (S.F0 36 16), .int (S.F0 36 17), .int (S.F0 36 18), .int (S.F0 36 19), .int (S.F0 36 20), .ref 46, .int (S.F0 36 22), .ref 47, .int (S.F0 36 24), .ref 48, .ref 49, .int (S.F0 36 27), .int (S.F0 36 28), .int (S.F0 36 29), .int (S.F0 36 30), .ref 50, .ref 51, .ref 52, .int (S.F0 36 34), .int (S.F0 36 35), .int (S.F0 36 36), .ref 53, .ref 54, .ref 55, .ref 56, .ref 57, .int (S.F0 36 42), .int (S.F0 36 43), .ref 58, .ref 59, .int (S.F0 36 46), .ref 60, .ref 61, .ref 62, .ref 63, .ref 64, .ref 65, .ref 66, .ref 67, .ref 68, .int (S.F0 36 56), .ref 69, .ref 70].set 1 (vI x)) = Hp (S.f 36 1 x) := rfl
set_option maxRecDepth 100000 in
theorem pf_36_2 (S : St) (x : Int) : (Hp S).set 36 (10, [.int (S.F0 36 0), .int (S.F0 36 1), .int (S.F0 36 2), .ref 37, .ref 38, .ref 39, .ref 40, .ref 41, .ref 42, .int (S.F0 36 9), .int (S.F0 36 10), .ref 43, .ref 44, .ref 45, .int (S.F0 36 14), .int (S.F0 36 15), .int (S.F0 36 16), .int (S.F0 36 17), .int (S.F0 36 18), .int (S.F0 36 19), .int (S.F0 36 20), .ref 46, .int (S.F0 36 22), .ref 47, .int (S.F0 36 24), .ref 48, .ref 49, .int (S.F0 36 27), .int (S.F0 36 28), .int (S.F0 36 29), .int (S.F0 36 30), .ref 50, .ref 51, .ref 52, .int (S.F0 36 34), .int (S.F0 36 35), .int (S.F0 36 36), .ref 53, .ref 54, .ref 55, .ref 56, .ref 57, .int (S.F0 36 42), .int (S.F0 36 43), .ref 58, .ref 59, .int (S.F0 36 46), .ref 60, .ref 61, .ref 62, .ref 63, .ref 64, .ref 65, .ref 66, .ref 67, .ref 68, .int (S.F0 36 56), .ref 69, .ref 70].set 2 (vI x)) = Hp (S.f 36 2 x) := rfl
set_option maxRecDepth 100000 in
theorem pf_36_9 (S : St) (x : Int) : (Hp S).set 36 (10, [.int (S.F0 36 0), .int (S.F0 36 1), .int (S.F0 36 2), .ref 37, .ref 38, .ref 39, .ref 40, .ref 41, .ref 42, .int (S.F0 36 9), .int (S.F0 36 10), .ref 43, .ref 44, .ref 45, .int (S.F0 36 14), .int (S.F0 36 15), .int (S.F0 36 16), .int (S.F0 36 17), .int (S.F0 36 18), .int (S.F0 36 19), .int (S.F0 36 20), .ref 46, .int (S.F0 36 22), .ref 47, .int (S.F0 36 24), .ref 48, .ref 49, .int (S.F0 36 27), .int (S.F0 36 28), .int (S.F0 36 29), .int (S.F0 36 30), .ref 50, .ref 51, .ref 52, .int (S.F0 36 34), .int (S.F0 36 35), .int (S.F0 36 36), .ref 53, .ref 54, .ref 55, .ref 56, .ref 57, .int (S.F0 36 42), .int (S.F0 36 43), .ref 58, .ref 59, .int (S.F0 36 46), .ref 60, .ref 61, .ref 62, .ref 63, .ref 64, .ref 65, .ref 66, .ref 67, .ref 68, .int (S.F0 36 56), .ref 69, .ref 70].set 9 (vI x)) = Hp (S.f 36 9 x) := rfl
set_option maxRecDepth 100000 in
theorem pf_36_10 (S : St) (x : Int) : (Hp S).set 36 (10, [.int (S.F0 36 0), .int (S.F0 36 1), .int (S.F0 36 2), .ref 37, .ref 38, .ref 39, .ref 40, .ref 41, .ref 42, .int (S.F0 36 9), .int (S.F0 36 10), .ref 43, .ref 44, .ref 45, .int (S.F0 36 14), .int (S.F0 36 15), .int (S.F0 36 16), .int (S.F0 36 17), .int (S.F0 36 18), .int (S.F0 36 19), .int (S.F0 36 20), .ref 46, .int (S.F0 36 22), .ref 47, .int (S.F0 36 24), .ref 48, .ref 49, .int (S.F0 36 27), .int (S.F0 36 28), .int (S.F0 36 29), .int (S.F0 36 30), .ref 50, .ref 51, .ref 52, .int (S.F0 36 34), .int (S.F0 36 35), .int (S.F0 36 36), .ref 53, .ref 54, .ref 55, .ref 56, .ref 57, .int (S.F0 36 42), .int (S.F0 36 43), .ref 58, .ref 59, .int (S.F0 36 46), .ref 60, .ref 61, .ref 62, .ref 63, .ref 64, .ref 65, .ref 66, .ref 67, .ref 68, .int (S.F0 36 56), .ref 69, .ref 70].set 10 (vI x)) = Hp (S.f 36 10 x) := rfl
set_option maxRecDepth 100000 in
theorem pf_36_14 (S : St) (x : Int) : (Hp S).set 36 (10, [.int (S.F0 36 0), .int (S.F0 36 1), .int (S.F0 36 2), .ref 37, .ref 38, .ref 39, .ref 40, .ref 41, .ref 42, .int (S.F0 36 9), .int (S.F0 36 10), .ref 43, .ref 44, .ref 45, .int (S.F0 36 14), .int (S.F0 36 15), .int (S.F0 36 16), .int (S.F0 36 17), .int (S.F0 36 18), .int (S.F0 36 19), .int (S.F0 36 20), .ref 46, .int (S.F0 36 22), .ref 47, .int (S.F0 36 24), .ref 48, .ref 49, .int (S.F0 36 27), .int (S.F0 36 28), .int (S.F0 36 29), .int (S.F0 36 30), .ref 50, .ref 51, .ref 52, .int (S.F0 36 34), .int (S.F0 36 35), .int (S.F0 36 36), .ref 53, .ref 54, .ref 55, .ref 56, .ref 57, .int (S.F0 36 42), .int (S.F0 36 43), .ref 58, .ref 59, .int (S.F0 36 46), .ref 60, .ref 61, .ref 62, .ref 63, .ref 64, .ref 65, .ref 66, .ref 67, .ref 68, .int (S.F0 36 56), .ref 69, .ref 70].set 14 (vI x)) = Hp (S.f 36 14 x) := rfl
set_option maxRecDepth 100000 in
theorem pf_36_15 (S : St) (x : Int) : (Hp S).set 36 (10, [.int (S.F0 36 0), .int (S.F0 36 1), .int (S.F0 36 2), .ref 37, .ref 38, .ref 39, .ref 40, .ref 41, .ref 42, .int (S.F0 36 9), .int (S.F0 36 10), .ref 43, .ref 44, .ref 45, .int (S.F0 36 14), .int (S.F0 36 15), .int (S.F0 36 16), .int (S.F0 36 17), .int (S.F0 36 18), .int (S.F0 36 19), .int (S.F0 36 20), .ref 46, .int (S.F0 36 22), .ref 47, .int (S.F0 36 24), .ref 48, .ref 49, .int (S.F0 36 27), .int (S.F0 36 28), .int (S.F0 36 29), .int (S.F0 36 30), .ref 50, .ref 51, .ref 52, .int (S.F0 36 34), .int (S.F0 36 35), .int (S.F0 36 36), .ref 53, .ref 54, .ref 55, .ref 56, .ref 57, .int (S.F0 36 42), .int (S.F0 36 43), .ref 58, .ref 59, .int (S.F0 36 46), .ref 60, .ref 61, .ref 62, .ref 63, .ref 64, .ref 65, .ref 66, .ref 67, .ref 68, .int (S.F0 36 56), .ref 69, .ref 70].set 15 (vI x)) = Hp (S.f 36 15 x) := rfl
set_option maxRecDepth 100000 in
theorem pf_36_16 (S : St) (x : Int) : (Hp S).set 36 (10, [.int (S.F0 36 0), .int (S.F0 36 1), .int (S.F0 36 2), .ref 37, .ref 38, .ref 39, .ref 40, .ref 41, .ref 42, .int (S.F0 36 9), .int (S.F0 36 10), .ref 43, .ref 44, .ref 45, .int (S.F0 36 14), .int (S.F0 36 15), .int (S.F0 36 16), .int (S.F0 36 17), .int (S.F0 36 18), .int (S.F0 36 19), .int (S.F0 36 20), .ref 46, .int (S.F0 36 22), .ref 47, .int (S.F0 36 24), .ref 48, .ref 49, .int (S.F0 36 27), .int (S.F0 36 28), .int (S.F0 36 29), .int (S.F0 36 30), .ref 50, .ref 51, .ref 52, .int (S.F0 36 34), .int (S.F0 36 35), .int (S.F0 36 36), .ref 53, .ref 54, .ref 55, .ref 56, .ref 57, .int (S.F0 36 42), .int (S.F0 36 43), .ref 58, .ref 59, .int (S.F0 36 46), .ref 60, .ref 61, .ref 62, .ref 63, .ref 64, .ref 65, .ref 66, .ref 67, .ref 68, .int (S.F0 36 56), .ref 69, .ref 70].set 16 (vI x)) = Hp (S.f 36 16 x) := rfl
set_option maxRecDepth 100000 in
theorem pf_36_17 (S : St) (x : Int) : (Hp S).set 36 (10, [.int (S.F0 36 0), .int (S.F0 36 1), .int (S.F0 36 2), .ref 37, .ref 38, .ref 39, .ref 40, .ref 41, .ref 42, .int (S.F0 36 9), .int (S.F0 36 10), .ref 43, .ref 44, .ref 45, .int (S.F0 36 14), .int (S.F0 36 15), .int (S.F0 36 16), .int (S.F0 36 17), .int (S.F0 36 18), .int (S.F0 36 19), .int (S.F0 36 20), .ref 46, .int (S.F0 36 22), .ref 47, .int (S.F0 36 24), .ref 48, .ref 49, .int (S.F0 36 27), .int (S.F0 36 28), .int (S.F0 36 29), .int (S.F0 36 30), .ref 50, .ref 51, .ref 52, .int (S.F0 36 34), .int (S.F0 36 35), .int (S.F0 36 36), .ref 53, .ref 54, .ref 55, .ref 56, .ref 57, .int (S.F0 36 42), .int (S.F0 36 43), .ref 58, .ref 59, .int (S.F0 36 46), .ref 60, .ref 61, .ref 62, .ref 63, .ref 64, .ref 65, .ref 66, .ref 67, .ref 68, .int (S.F0 36 56), .ref 69, .ref 70].set 17 (vI x)) = Hp (S.f 36 17 x) := rfl
set_option maxRecDepth 100000 in
theorem pf_36_18 (S : St) (x : Int) : (Hp S).set 36 (10, [.int (S.F0 36 0), .int (S.F0 36 1), .int (S.F0 36 2), .ref 37, .ref 38, .ref 39, .ref 40, .ref 41, .ref 42, .int (S.F0 36 9), .int (S.F0 36 10), .ref 43, .ref 44, .ref 45, .int (S.F0 36 14), .int (S.F0 36 15), .int (S.F0 36 16), .int (S.F0 36 17), .int (S.F0 36 18), .int (S.F0 36 19), .int (S.F0 36 20), .ref 46, .int (S.F0 36 22), .ref 47, .int (S.F0 36 24), .ref 48, .ref 49, .int (S.F0 36 27), .int (S.F0 36 28), .int (S.F0 36 29), .int (S.F0 36 30), .ref 50, .ref 51, .ref 52, .int (S.F0 36 34), .int (S.F0 36 35), .int (S.F0 36 36), .ref 53, .ref 54, .ref 55, .ref 56, .ref 57, .int (S.F0 36 42), .int (S.F0 36 43), .ref 58, .ref 59, .int (S.F0 36 46), .ref 60, .ref 61, .ref 62, .ref 63, .ref 64, .ref 65, .ref 66, .ref 67, .ref 68, .int (S.F0 36 56), .ref 69, .ref 70].set 18 (vI x)) = Hp (S.f 36 18 x) := rfl
set_option maxRecDepth 100000 in
theorem pf_36_19 (S : St) (x : Int) : (Hp S).set 36 (10, [.int (S.F0 36 0), .int (S.F0 36 1), .int (S.F0 36 2), .ref 37, .ref 38, .ref 39, .ref 40, .ref 41, .ref 42, .int (S.F0 36 9), .int (S.F0 36 10), .ref 43, .ref 44, .ref 45, .int (S.F0 36 14), .int (S.F0 36 15), .int (S.F0 36 16), .int (S.F0 36 17), .int (S.F0 36 18), .int (S.F0 36 19), .int (S.F0 36 20), .ref 46, .int (S.F0 36 22), .ref 47, .int (S.F0 36 24), .ref 48, .ref 49, .int (S.F0 36 27), .int (S.F0 36 28), .int (S.F0 36 29), .int (S.F0 36 30), .ref 50, .ref 51, .ref 52, .int (S.F0 36 34), .int (S.F0 36 35), .int (S.F0 36 36), .ref 53, .ref 54, .ref 55, .ref 56, .ref 57, .int (S.F0 36 42), .int (S.F0 36 43), .ref 58, .ref 59, .int (S.F0 36 46), .ref 60, .ref 61, .ref 62, .ref 63, .ref 64, .ref 65, .ref 66, .ref 67, .ref 68, .int (S.F0 36 56), .ref 69, .ref 70].set 19 (vI x)) = Hp (S.f 36 19 x) := rfl
set_option maxRecDepth 100000 in
theorem pf_36_20 (S : St) (x : Int) : (Hp S).set 36 (10, [.int (S.F0 36 0), .int (S.F0 36 1), .int (S.F0 36 2), .ref 37, .ref 38, .ref 39, .ref 40, .ref 41, .ref 42, .int (S.F0 36 9), .int (S.F0 36 10), .ref 43, .ref 44, .ref 45, .int (S.F0 36 14), .int (S.F0 36 15), .int (S.F0 36 16), .int (S.F0 36 17), .int (S.F0 36 18), .int (S.F0 36 19), .int (S.F0 36 20), .ref 46, .int (S.F0 36 22), .ref 47, .int (S.F0 36 24), .ref 48, .ref 49, .int (S.F0 36 27), .int (S.F0 36 28), .int (S.F0 36 29), .int (S.F0 36 30), .ref 50, .ref 51, .ref 52, .int (S.F0 36 34), .int (S.F0 36 35), .int (S.F0 36 36), .ref 53, .ref 54, .ref 55, .ref 56, .ref 57, .int (S.F0 36 42), .int (S.F0 36 43), .ref 58, .ref 59, .int (S.F0 36 46), .ref 60, .ref 61, .ref 62, .ref 63, .ref 64, .ref 65, .ref 66, .ref 67, .ref 68, .int (S.F0 36 56), .ref 69, .ref 70].set 20 (vI x)) = Hp (S.f 36 20 x) := rfl
set_option maxRecDepth 100000 in
theorem pf_36_22 (S : St) (x : Int) : (Hp S).set 36 (10, [.int (S.F0 36 0), .int (S.F0 36 1), .int (S.F0 36 2), .ref 37, .ref 38, .ref 39, .ref 40, .ref 41, .ref 42, .int (S.F0 36 9), .int (S.F0 36 10), .ref 43, .ref 44, .ref 45, .int (S.F0 36 14), .int (S.F0 36 15), .int (S.F0 36 16), .int (S.F0 36 17), .int (S.F0 36 18), .int (S.F0 36 19), .int (S.F0 36 20), .ref 46, .int (S.F0 36 22), .ref 47, .int (S.F0 36 24), .ref 48, .ref 49, .int (S.F0 36 27), .int (S.F0 36 28), .int (S.F0 36 29), .int (S.F0 36 30), .ref 50, .ref 51, .ref 52, .int (S.F0 36 34), .int (S.F0 36 35), .int (S.F0 36 36), .ref 53, .ref 54, .ref 55, .ref 56, .ref 57, .int (S.F0 36 42), .int (S.F0 36 43), .ref 58, .ref 59, .int (S.F0 36 46), .ref 60, .ref 61, .ref 62, .ref 63, .ref 64, .ref 65, .ref 66, .ref 67, .ref 68, .int (S.F0 36 56), .ref 69, .ref 70].set 22 (vI x)) = Hp (S.f 36 22 x) := rfl
set_option maxRecDepth 100000 in
theorem pf_36_24 (S : St) (x : Int) : (Hp S).set 36 (10, [.int (S.F0 36 0), .int (S.F0 36 1), .int (S.F0 36 2), .ref 37, .ref 38, .ref 39, .ref 40, .ref 41, .ref 42, .int (S.F0 36 9), .int (S.F0 36 10), .ref 43, .ref 44, .ref 45, .int (S.F0 36 14), .int (S.F0 36 15), .int (S.F0 36 16), .int (S.F0 36 17), .int (S.F0 36 18), .int (S.F0 36 19), .int (S.F0 36 20), .ref 46, .int (S.F0 36 22), .ref 47, .int (S.F0 36 24), .ref 48, .ref 49, .int (S.F0 36 27), .int (S.F0 36 28), .int (S.F0 36 29), .int (S.F0 36 30), .ref 50, .ref 51, .ref 52, .int (S.F0 36 34), .int (S.F0 36 35), .int (S.F0 36 36), .ref 53, .ref 54, .ref 55, .ref 56, .ref 57, .int (S.F0 36 42), .int (S.F0 36 43), .ref 58, .ref 59, .int (S.F0 36 46), .ref 60, .ref 61, .ref 62, .ref 63, .ref 64, .ref 65, .ref 66, .ref 67, .ref 68, .int (S.F0 36 56), .ref 69, .ref 70].set 24 (vI x)) = Hp (S.f 36 24 x) := rfl
set_option maxRecDepth 100000 in
theorem pf_36_27 (S : St) (x : Int) : (Hp S).set 36 (10, [.int (S.F0 36 0), .int (S.F0 36 1), .int (S.F0 36 2), .ref 37, .ref 38, .ref 39, .ref 40, .ref 41, .ref 42, .int (S.F0 36 9), .int (S.F0 36 10), .ref 43, .ref 44, .ref 45, .int (S.F0 36 14), .int (S.F0 36 15), .int (S.F0 36 16), .int (S.F0 36 17), .int (S.F0 36 18), .int (S.F0 36 19), .int (S.F0 36 20), .ref 46, .int (S.F0 36 22), .ref 47, .int (S.F0 36 24), .ref 48, .ref 49, .int (S.F0 36 27), .int (S.F0 36 28), .int (S.F0 36 29), .int (S.F0 36 30), .ref 50, .ref 51, .ref 52, .int (S.F0 36 34), .int (S.F0 36 35), .int (S.F0 36 36), .ref 53, .ref 54, .ref 55, .ref 56, .ref 57, .int (S.F0 36 42), .int (S.F0 36 43), .ref 58, .ref 59, .int (S.F0 36 46), .ref 60, .ref 61, .ref 62, .ref 63, .ref 64, .ref 65, .ref 66, .ref 67, .ref 68, .int (S.F0 36 56), .ref 69, .ref 70].set 27 (vI x)) = Hp (S.f 36 27 x) := rfl
set_option maxRecDepth 100000 in
theorem pf_36_28 (S : St) (x : Int) : (Hp S).set 36 (10, [.int (S.F0 36 0), .int (S.F0 36 1), .int (S.F0 36 2), .ref 37, .ref 38, .ref 39, .ref 40, .ref 41, .ref 42, .int (S.F0 36 9), .int (S.F0 36 10), .ref 43, .ref 44, .ref 45, .int (S.F0 36 14), .int (S.F0 36 15), .int (S.F0 36 16), .int (S.F0 36 17), .int (S.F0 36 18), .int (S.F0 36 19), .int (S.F0 36 20), .ref 46, .int (S.F0 36 22), .ref 47, .int (S.F0 36 24), .ref 48, .ref 49, .int (S.F0 36 27), .int (S.F0 36 28), .int (S.F0 36 29), .int (S.F0 36 30), .ref 50, .ref 51, .ref 52, .int (S.F0 36 34), .int (S.F0 36 35), .int (S.F0 36 36), .ref 53, .ref 54, .ref 55, .ref 56, .ref 57, .int (S.F0 36 42), .int (S.F0 36 43), .ref 58, .ref 59, .int (S.F0 36 46), .ref 60, .ref 61, .ref 62, .ref 63, .ref 64, .ref 65, .ref 66, .ref 67, .ref 68, .int (S.F0 36 56), .ref 69, .ref 70].set 28 (vI x)) = Hp (S.f 36 28 x) := rfl
set_option maxRecDepth 100000 in
theorem pf_36_29 (S : St) (x : Int) : (Hp S).set 36 (10, [.int (S.F0 36 0), .int (S.F0 36 1), .int (S.F0 36 2), .ref 37, .ref 38, .ref 39, .ref 40, .ref 41, .ref 42, .int (S.F0 36 9), .int (S.F0 36 10), .ref 43, .ref 44, .ref 45, .int (S.F0 36 14), .int (S.F0 36 15), .int (S.F0 36 16), .int (S.F0 36 17), .int (S.F0 36 18), .int (S.F0 36 19), .int (S.F0 36 20), .ref 46, .int (S.F0 36 22), .ref 47, .int (S.F0 36 24), .ref 48, .ref 49, .int (S.F0 36 27), .int (S.F0 36 28), .int (S.F0 36 29), .int (S.F0 36 30), .ref 50, .ref 51, .ref 52, .int (S.F0 36 34), .int (S.F0 36 35), .int (S.F0 36 36), .ref 53, .ref 54, .ref 55, .ref 56, .ref 57, .int (S.F0 36 42), .int (S.F0 36 43), .ref 58, .ref 59, .int (S.F0 36 46), .ref 60, .ref 61, .ref 62, .ref 63, .ref 64, .ref 65, .ref 66, .ref 67, .ref 68, .int (S.F0 36 56), .ref 69, .ref 70].set 29 (vI x)) = Hp (S.f 36 29 x) := rfl
set_option maxRecDepth 100000 in
theorem pf_36_30 (S : St) (x : Int) : (Hp S).set 36 (10, [.int (S.F0 36 0), .int (S.F0 36 1), .int (S.F0 36 2), .ref 37, .ref 38, .ref 39, .ref 40, .ref 41, .ref 42, .int (S.F0 36 9), .int (S.F0 36 10), .ref 43, .ref 44, .ref 45, .int (S.F0 36 14), .int (S.F0 36 15), .int (S.F0 36 16), .int (S.F0 36 17), .int (S.F0 36 18), .int (S.F0 36 19), .int (S.F0 36 20), .ref 46, .int (S.F0 36 22), .ref 47, .int (S.F0 36 24), .ref 48, .ref 49, .int (S.F0 36 27), .int (S.F0 36 28), .int (S.F0 36 29), .int (S.F0 36 30), .ref 50, .ref 51, .ref 52, .int (S.F0 36 34), .int (S.F0 36 35), .int (S.F0 36 36), .ref 53, .ref 54, .ref 55, .ref 56, .ref 57, .int (S.F0 36 42), .int (S.F0 36 43), .ref 58, .ref 59, .int (S.F0 36 46), .ref 60, .ref 61, .ref 62, .ref 63, .ref 64, .ref 65, .ref 66, .ref 67, .ref 68, .int (S.F0 36 56), .ref 69, .ref 70].set 30 (vI x)) = Hp (S.f 36 30 x) := rfl
set_option maxRecDepth 100000 in
theorem pf_36_34 (S : St) (x : Int) : (Hp S).set 36 (10, [.int (S.F0 36 0), .int (S.F0 36 1), .int (S.F0 36 2), .ref 37, .ref 38, .ref 39, .ref 40, .ref 41, .ref 42, .int (S.F0 36 9), .int (S.F0 36 10), .ref 43, .ref 44, .ref 45, .int (S.F0 36 14), .int (S.F0 36 15), .int (S.F0 36 16), .int (S.F0 36 17), .int (S.F0 36 18), .int (S.F0 36 19), .int (S.F0 36 20), .ref 46, .int (S.F0 36 22), .ref 47, .int (S.F0 36 24), .ref 48, .ref 49, .int (S.F0 36 27), .int (S.F0 36 28), .int (S.F0 36 29), .int (S.F0 36 30), .ref 50, .ref 51, .ref 52, .int (S.F0 36 34), .int (S.F0 36 35), .int (S.F0 36 36), .ref 53, .ref 54, .ref 55, .ref 56, .ref 57, .int (S.F0 36 42), .int (S.F0 36 43), .ref 58, .ref 59, .int (S.F0 36 46), .ref 60, .ref 61, .ref 62, .ref 63, .ref 64, .ref 65, .ref 66, .ref 67, .ref 68, .int (S.F0 36 56), .ref 69, .ref 70].set 34 (vI x)) = Hp (S.f 36 34 x) := rfl
set_option maxRecDepth 100000 in
theorem pf_36_35 (S : St) (x : Int) : (Hp S).set 36 (10, [.int (S.F0 36 0), .int (S.F0 36 1), .int (S.F0 36 2), .ref 37, .ref 38, .ref 39, .ref 40, .ref 41, .ref 42, .int (S.F0 36 9), .int (S.F0 36 10), .ref 43, .ref 44, .ref 45, .int (S.F0 36 14), .int (S.F0 36 15), .int (S.F0 36 16), .int (S.F0 36 17), .int (S.F0 36 18), .int (S.F0 36 19), .int (S.F0 36 20), .ref 46, .int (S.F0 36 22), .ref 47, .int (S.F0 36 24), .ref 48, .ref 49, .int (S.F0 36 27), .int (S.F0 36 28), .int (S.F0 36 29), .int (S.F0 36 30), .ref 50, .ref 51, .ref 52, .int (S.F0 36 34), .int (S.F0 36 35), .int (S.F0 36 36), .ref 53, .ref 54, .ref 55, .ref 56, .ref 57, .int (S.F0 36 42), .int (S.F0 36 43), .ref 58, .ref 59, .int (S.F0 36 46), .ref 60, .ref 61, .ref 62, .ref 63, .ref 64, .ref 65, .ref 66, .ref 67, .ref 68, .int (S.F0 36 56), .ref 69, .ref 70].set 35 (vI x)) = Hp (S.f 36 35 x) := rfl
set_option maxRecDepth 100000 in
theorem pf_36_36 (S : St) (x : Int) : (Hp S).set 36 (10, [.int (S.F0 36 0), .int (S.F0 36 1), .int (S.F0 36 2), .ref 37, .ref 38, .ref 39, .ref 40, .ref 41, .ref 42, .int (S.F0 36 9), .int (S.F0 36 10), .ref 43, .ref 44, .ref 45, .int (S.F0 36 14), .int (S.F0 36 15), .int (S.F0 36 16), .int (S.F0 36 17), .int (S.F0 36 18), .int (S.F0 36 19), .int (S.F0 36 20), .ref 46, .int (S.F0 36 22), .ref 47, .int (S.F0 36 24), .ref 48, .ref 49, .int (S.F0 36 27), .int (S.F0 36 28), .int (S.F0 36 29), .int (S.F0 36 30), .ref 50, .ref 51, .ref 52, .int (S.F0 36 34), .int (S.F0 36 35), .int (S.F0 36 36), .ref 53, .ref 54, .ref 55, .ref 56, .ref 57, .int (S.F0 36 42), .int (S.F0 36 43), .ref 58, .ref 59, .int (S.F0 36 46), .ref 60, .ref 61, .ref 62, .ref 63, .ref 64, .ref 65, .ref 66, .ref 67, .ref 68, .int (S.F0 36 56), .ref 69, .ref 70].set 36 (vI x)) = Hp (S.f 36 36 x) := rfl
set_option maxRecDepth 100000 in
theorem pf_36_42 (S : St) (x : Int) : (Hp S).set 36 (10, [.int (S.F0 36 0), .int (S.F0 36 1), .int (S.F0 36 2), .ref 37, .ref 38, .ref 39, .ref 40, .ref 41, .ref 42, .int (S.F0 36 9), .int (S.F0 36 10), .ref 43, .ref 44, .ref 45, .int (S.F0 36 14), .int (S.F0 36 15), .int (S.F0 36 16), .int (S.F0 36 17), .int (S.F0 36 18), .int (S.F0 36 19), .int (S.F0 36 20), .ref 46, .int (S.F0 36 22), .ref 47, .int (S.F0 36 24), .ref 48, .ref 49, .int (S.F0 36 27), .int (S.F0 36 28), .int (S.F0 36 29), .int (S.F0 36 30), .ref 50, .ref 51, .ref 52, .int (S.F0 36 34), .int (S.F0 36 35), .int (S.F0 36 36), .ref 53, .ref 54, .ref 55, .ref 56, .ref 57, .int (S.F0 36 42), .int (S.F0 36 43), .ref 58, .ref 59, .int (S.F0 36 46), .ref 60, .ref 61, .ref 62, .ref 63, .ref 64, .ref 65, .ref 66, .ref 67, .ref 68, .int (S.F0 36 56), .ref 69, .ref 70].set 42 (vI x)) = Hp (S.f 36 42 x) := rfl
set_option maxRecDepth 100000 in
theorem pf_36_43 (S : St) (x : Int) : (Hp S).set 36 (10, [.int (S.F0 36 0), .int (S.F0 36 1), .int (S.F0 36 2), .ref 37, .ref 38, .ref 39, .ref 40, .ref 41, .ref 42, .int (S.F0 36 9), .int (S.F0 36 10), .ref 43, .ref 44, .ref 45, .int (S.F0 36 14), .int (S.F0 36 15), .int (S.F0 36 16), .int (S.F0 36 17), .int (S.F0 36 18), .int (S.F0 36 19), .int (S.F0 36 20), .ref 46, .int (S.F0 36 22), .ref 47, .int (S.F0 36 24), .ref 48, .ref 49, .int (S.F0 36 27), .int (S.F0 36 28), .int (S.F0 36 29), .int (S.F0 36 30), .ref 50, .ref 51, .ref 52, .int (S.F0 36 34), .int (S.F0 36 35), .int (S.F0 36 36), .ref 53, .ref 54, .ref 55, .ref 56, .ref 57, .int (S.F0 36 42), .int (S.F0 36 43), .ref 58, .ref 59, .int (S.F0 36 46), .ref 60, .ref 61, .ref 62, .ref 63, .ref 64, .ref 65, .ref 66, .ref 67, .ref 68, .int (S.F0 36 56), .ref 69, .ref 70].set 43 (vI x)) = Hp (S.f 36 43 x) := rfl
set_option maxRecDepth 100000 in
theorem pf_36_46 (S : St) (x : Int) : (Hp S).set 36 (10, [.int (S.F0 36 0), .int (S.F0 36 1), .int (S.F0 36 2), .ref 37, .ref 38, .ref 39, .ref 40, .ref 41, .ref 42, .int (S.F0 36 9), .int (S.F0 36 10), .ref 43, .ref 44, .ref 45, .int (S.F0 36 14), .int (S.F0 36 15), .int (S.F0 36 16), .int (S.F0 36 17), .int (S.F0 36 18), .int (S.F0 36 19), .int (S.F0 36 20), .ref 46, .int (S.F0 36 22), .ref 47, .int (S.F0 36 24), .ref 48, .ref 49, .int (S.F0 36 27), .int (S.F0 36 28), .int (S.F0 36 29), .int (S.F0 36 30), .ref 50, .ref 51, .ref 52, .int (S.F0 36 34), .int (S.F0 36 35), .int (S.F0 36 36), .ref 53, .ref 54, .ref 55, .ref 56, .ref 57, .int (S.F0 36 42), .int (S.F0 36 43), .ref 58, .ref 59, .int (S.F0 36 46), .ref 60, .ref 61, .ref 62, .ref 63, .ref 64, .ref 65, .ref 66, .ref 67, .ref 68, .int (S.F0 36 56), .ref 69, .ref 70].set 46 (vI x)) = Hp (S.f 36 46 x) := rfl
set_option maxRecDepth 100000 in
theorem pf_36_56 (S : St) (x : Int) : (Hp S).set 36 (10, [.int (S.F0 36 0), .int (S.F0 36 1), .int (S.F0 36 2), .ref 37, .ref 38, .ref 39, .ref 40, .ref 41, .ref 42, .int (S.F0 36 9), .int (S.F0 36 10), .ref 43, .ref 44, .ref 45, .int (S.F0 36 14), .int (S.F0 36 15), .int (S.F0 36 16), .int (S.F0 36 17), .int (S.F0 36 18), .int (S.F0 36 19), .int (S.F0 36 20), .ref 46, .int (S.F0 36 22), .ref 47, .int (S.F0 36 24), .ref 48, .ref 49, .int (S.F0 36 27), .int (S.F0 36 28), .int (S.F0 36 29), .int (S.F0 36 30), .ref 50, .ref 51, .ref 52, .int (S.F0 36 34), .int (S.F0 36 35), .int (S.F0 36 36), .ref 53, .ref 54, .ref 55, .ref 56, .ref 57, .int (S.F0 36 42), .int (S.F0 36 43), .ref 58, .ref 59, .int (S.F0 36 46), .ref 60, .ref 61, .ref 62, .ref 63, .ref 64, .ref 65, .ref 66, .ref 67, .ref 68, .int (S.F0 36 56), .ref 69, .ref 70].set 56 (vI x)) = Hp (S.f 36 56 x) := rfl
set_option maxRecDepth 100000 in
theorem ps_37 (S : St) (i x : Int) : (Hp S).set 37 (50, aI 160 (upI (S.A0 37) i (eI x))) = Hp (S.a 37 i x) := rfl
set_option maxRecDepth 100000 in
theorem ps_38 (S : St) (i x : Int) : (Hp S).set 38 (50, aI 8032 (upI (S.A0 38) i (eI x))) = Hp (S.a 38 i x) := rfl
set_option maxRecDepth 100000 in
theorem ps_39 (S : St) (i x : Int) : (Hp S).set 39 (50, aI 504 (upI (S.A0 39) i (eI x))) = Hp (S.a 39 i x) := rfl
set_option maxRecDepth 100000 in
theorem ps_40 (S : St) (i x : Int) : (Hp S).set 40 (51, aI 504 (upI (S.A0 40) i (eI x))) = Hp (S.a 40 i x) := rfl
set_option maxRecDepth 100000 in
theorem ps_41 (S : St) (i x : Int) : (Hp S).set 41 (50, aI 125 (upI (S.A0 41) i (eI x))) = Hp (S.a 41 i x) := rfl
set_option maxRecDepth 100000 in
theorem ps_42 (S : St) (i x : Int) : (Hp S).set 42 (50, aI 125 (upI (S.A0 42) i (eI x))) = Hp (S.a 42 i x) := rfl
set_option maxRecDepth 100000 in
theorem ps_43 (S : St) (i x : Int) : (Hp S).set 43 (50, aI 100 (upI (S.A0 43) i (eI x))) = Hp (S.a 43 i x) := rfl
set_option maxRecDepth 100000 in
theorem ps_44 (S : St) (i x : Int) : (Hp S).set 44 (50, aI 100 (upI (S.A0 44) i (eI x))) = Hp (S.a 44 i x) := rfl
set_option maxRecDepth 100000 in
theorem ps_45 (S : St) (i x : Int) : (Hp S).set 45 (50, aI 400 (upI (S.A0 45) i (eI x))) = Hp (S.a 45 i x) := rfl
set_option maxRecDepth 100000 in
theorem ps_46 (S : St) (i x : Int) : (Hp S).set 46 (50, aI 1024 (upI (S.A0 46) i (eI x))) = Hp (S.a 46 i x) := rfl
set_option maxRecDepth 100000 in
theorem ps_47 (S : St) (i x : Int) : (Hp S).set 47 (50, aI 128 (upI (S.A0 47) i (eI x))) = Hp (S.a 47 i x) := rfl
set_option maxRecDepth 100000 in
theorem ps_48 (S : St) (i x : Int) : (Hp S).set 48 (50, aI 100 (upI (S.A0 48) i (eI x))) = Hp (S.a 48 i x) := rfl
set_option maxRecDepth 100000 in
theorem ps_49 (S : St) (i x : Int) : (Hp S).set 49 (51, aI 100 (upI (S.A0 49) i (eI x))) = Hp (S.a 49 i x) := rfl
set_option maxRecDepth 100000 in
theorem ps_50 (S : St) (i x : Int) : (Hp S).set 50 (50, aI 50 (upI (S.A0 50) i (eI x))) = Hp (S.a 50 i x) := rfl
set_option maxRecDepth 100000 in
theorem ps_51 (S : St) (i x : Int) : (Hp S).set 51 (50, aI 50 (upI (S.A0 51) i (eI x))) = Hp (S.a 51 i x) := rfl
set_option maxRecDepth 100000 in
theorem ps_52 (S : St) (i x : Int) : (Hp S).set 52 (51, aI 50 (upI (S.A0 52) i (eI x))) = Hp (S.a 52 i x) := rfl
set_option maxRecDepth 100000 in
theorem ps_53 (S : St) (i x : Int) : (Hp S).set 53 (50, aI 16 (upI (S.A0 53) i (eI x))) = Hp (S.a 53 i x) := rfl
set_option maxRecDepth 100000 in
theorem ps_54 (S : St) (i x : Int) : (Hp S).set 54 (50, aI 10 (upI (S.A0 54) i (eI x))) = Hp (S.a 54 i x) := rfl
set_option maxRecDepth 100000 in
theorem ps_55 (S : St) (i x : Int) : (Hp S).set 55 (51, aI 10 (upI (S.A0 55) i (eI x))) = Hp (S.a 55 i x) := rfl
set_option maxRecDepth 100000 in
theorem ps_56 (S : St) (i x : Int) : (Hp S).set 56 (51, aI 10 (upI (S.A0 56) i (eI x))) = Hp (S.a 56 i x) := rfl
set_option maxRecDepth 100000 in
theorem ps_57 (S : St) (i x : Int) : (Hp S).set 57 (50, aI 10 (upI (S.A0 57) i (eI x))) = Hp (S.a 57 i x) := rfl
set_option maxRecDepth 100000 in
theorem ps_58 (S : St) (i x : Int) : (Hp S).set 58 (50, aI 300 (upI (S.A0 58) i (eI x))) = Hp (S.a 58 i x) := rfl
set_option maxRecDepth 100000 in
theorem ps_59 (S : St) (i x : Int) : (Hp S).set 59 (50, aI 2400 (upI (S.A0 59) i (eI x))) = Hp (S.a 59 i x) := rfl
set_option maxRecDepth 100000 in
theorem ps_60 (S : St) (i x : Int) : (Hp S).set 60 (50, aI 100 (upI (S.A0 60) i (eI x))) = Hp (S.a 60 i x) := rfl
set_option maxRecDepth 100000 in
theorem ps_61 (S : St) (i x : Int) : (Hp S).set 61 (51, aI 100 (upI (S.A0 61) i (eI x))) = Hp (S.a 61 i x) := rfl
set_option maxRecDepth 100000 in
theorem ps_62 (S : St) (i x : Int) : (Hp S).set 62 (50, aI 64 (upI (S.A0 62) i (eI x))) = Hp (S.a 62 i x) := rfl
set_option maxRecDepth 100000 in
theorem ps_63 (S : St) (i x : Int) : (Hp S).set 63 (50, aI 64 (upI (S.A0 63) i (eI x))) = Hp (S.a 63 i x) := rfl
set_option maxRecDepth 100000 in
theorem ps_64 (S : St) (i x : Int) : (Hp S).set 64 (50, aI 128 (upI (S.A0 64) i (eI x))) = Hp (S.a 64 i x) := rfl
set_option maxRecDepth 100000 in
theorem ps_65 (S : St) (i x : Int) : (Hp S).set 65 (50, aI 640 (upI (S.A0 65) i (eI x))) = Hp (S.a 65 i x) := rfl
set_option maxRecDepth 100000 in
theorem ps_66 (S : St) (i x : Int) : (Hp S).set 66 (50, aI 640 (upI (S.A0 66) i (eI x))) = Hp (S.a 66 i x) := rfl
set_option maxRecDepth 100000 in
theorem ps_67 (S : St) (i x : Int) : (Hp S).set 67 (50, aI 640 (upI (S.A0 67) i (eI x))) = Hp (S.a 67 i x) := rfl
set_option maxRecDepth 100000 in
theorem ps_68 (S : St) (i x : Int) : (Hp S).set 68 (50, aI 16 (upI (S.A0 68) i (eI x))) = Hp (S.a 68 i x) := rfl
set_option maxRecDepth 100000 in
theorem ps_69 (S : St) (i x : Int) : (Hp S).set 69 (50, aI 400 (upI (S.A0 69) i (eI x))) = Hp (S.a 69 i x) := rfl
set_option maxRecDepth 100000 in
theorem ps_70 (S : St) (i x : Int) : (Hp S).set 70 (51, aI 100 (upI (S.A0 70) i (eI x))) = Hp (S.a 70 i x) := rfl
theorem fx_len (S : St) : (fx S).length = 72 := rfl
theorem Hp_len (S : St) : (Hp S).length = S.top := by
  unfold Hp St.top
  rw [List.length_append, List.length_map, fx_len]
theorem Hp_tl {S : St} {c : Nat} (hc : 72 ≤ c) : (Hp S)[c]? = (S.tl[c - 72]?).map Cl.en := by
  unfold Hp
  rw [List.getElem?_append_right (by rw [fx_len]; exact hc), fx_len, List.getElem?_map]
theorem cl_hp {S : St} {c : Nat} {x : Cl} (h : S.cl c = some x) : (Hp S)[c]? = some x.en := by
  unfold St.cl at h
  by_cases hc : 72 ≤ c
  · rw [if_pos hc] at h
    rw [Hp_tl hc, h]
    rfl
  rw [if_neg hc] at h
  by_cases h9 : c = 9
  · rw [if_pos h9] at h
    subst h9
    cases h
    exact hp9 S
  rw [if_neg h9] at h
  by_cases h12 : c = 12
  · rw [if_pos h12] at h
    subst h12
    cases h
    exact hp12 S
  rw [if_neg h12] at h
  by_cases h17 : c = 17
  · rw [if_pos h17] at h
    subst h17
    cases h
    exact hp17 S
  rw [if_neg h17] at h
  by_cases h18 : c = 18
  · rw [if_pos h18] at h
    subst h18
    cases h
    exact hp18 S
  rw [if_neg h18] at h
  by_cases h21 : c = 21
  · rw [if_pos h21] at h
    subst h21
    cases h
    exact hp21 S
  rw [if_neg h21] at h
  by_cases h32 : c = 32
  · rw [if_pos h32] at h
    subst h32
    cases h
    exact hp32 S
  rw [if_neg h32] at h
  by_cases h33 : c = 33
  · rw [if_pos h33] at h
    subst h33
    cases h
    exact hp33 S
  rw [if_neg h33] at h
  by_cases h38 : c = 38
  · rw [if_pos h38] at h
    subst h38
    cases h
    exact hp38 S
  rw [if_neg h38] at h
  by_cases h46 : c = 46
  · rw [if_pos h46] at h
    subst h46
    cases h
    exact hp46 S
  rw [if_neg h46] at h
  by_cases h16 : c = 16
  · rw [if_pos h16] at h
    subst h16
    cases h
    exact hp16 S
  rw [if_neg h16] at h
  by_cases h31 : c = 31
  · rw [if_pos h31] at h
    subst h31
    cases h
    exact hp31 S
  rw [if_neg h31] at h
  cases h
theorem gC_some {α : Type} {S : St} {c : Nat} {k : Nat → Nat → Int → Int → Option α} {o : α} (h : gC S c k = some o) : ∃ (b s : Nat) (n w : Int), (inR n ∧ inR w) ∧ (Hp S)[c]? = some (5, [.ref b, .ref s, vI n, vI w]) ∧ k b s n w = some o := by
  obtain ⟨b, s, n, w, e, h⟩ := gC_e h
  refine ⟨b, s, n.toInt, w.toInt, ⟨inR_to n, inR_to w⟩, ?_, h⟩
  rw [cl_hp e]
  simp only [vI, eI_of]
  rfl
theorem gK_some {α : Type} {S : St} {c : Nat} {k : Nat → Int → Int → Int → Int → Int → Int → Option α} {o : α} (h : gK S c k = some o) : ∃ (b : Nat) (x0 x1 x2 x3 x4 x5 : Int), (inR x0 ∧ inR x1 ∧ inR x2 ∧ inR x3 ∧ inR x4 ∧ inR x5) ∧ (Hp S)[c]? = some (9, [.ref b, vI x0, vI x1, vI x2, vI x3, vI x4, vI x5]) ∧ k b x0 x1 x2 x3 x4 x5 = some o := by
  obtain ⟨b, x0, x1, x2, x3, x4, x5, e, h⟩ := gK_e h
  refine ⟨b, x0.toInt, x1.toInt, x2.toInt, x3.toInt, x4.toInt, x5.toInt, ⟨inR_to _, inR_to _, inR_to _, inR_to _, inR_to _, inR_to _⟩, ?_, h⟩
  rw [cl_hp e]
  simp only [vI, eI_of]
  rfl
theorem gA_some {α : Type} {S : St} {c : Nat} {k : Nat → (Int → Int) → Option α} {o : α} (h : gA S c k = some o) : ∃ (N : Nat) (f : Int → Int), (∀ i, inR (f i)) ∧ (Hp S)[c]? = some (50, aI N (fun i => eI (f i))) ∧ k N f = some o := by
  obtain ⟨N, f, e, h⟩ := gA_e h
  refine ⟨N, fun i => (f i).toInt, fun i => inR_to _, ?_, h⟩
  rw [cl_hp e]
  simp only [eI_of]
  rfl
theorem fx_t (S : St) (c : Nat) (x : Cl) : fx (S.t c x) = fx S := rfl
theorem pt_ok {S : St} {c : Nat} {x : Cl} (hc : 72 ≤ c) : (Hp S).set c x.en = Hp (S.t c x) := by
  unfold Hp
  rw [fx_t, List.set_append_right _ _ (by rw [fx_len]; exact hc), fx_len]
  congr 1
  exact (List.map_set ..).symm
theorem ho_ok (S : St) : Hp S ++ [(99, [])] = Hp S.ho := by
  unfold Hp
  show (fx S ++ S.tl.map Cl.en) ++ [(99, [])] = fx S ++ (S.tl ++ [Cl.ho]).map Cl.en
  rw [List.map_append, List.append_assoc]
  rfl
theorem nw_ok (S : St) (k n : Nat) : Hp S ++ [(k, mt_df k)] = Hp (S.nw k n) := by
  unfold Hp
  show (fx S ++ S.tl.map Cl.en) ++ [(k, mt_df k)] = fx S ++ (S.tl ++ [Cl.nw k]).map Cl.en
  rw [List.map_append, List.append_assoc]
  rfl
def tv (k : Nat) (x : Int) : Option Value := match k with
  | 0 => some (vI x)
  | _ + 1 => none
theorem eI_nI {i : Int} (h : 0 ≤ i) : eI i = nI i.toNat := by
  have e : i = (i.toNat : Int) := (Int.toNat_of_nonneg h).symm
  rw [e]
  exact Int32.ofInt_eq_ofNat
theorem cz {k : ClassFile.Cond} {x : Int} {b : Bool} (h : mn_cmp k (eI x) (eI 0) = b) : mn_cmp k (eI x) 0 = b := by
  rw [eI_0] at h
  exact h
theorem fk_b {x : Int} (h : b1R x) : mn_fk 1 (vI x) = true := by
  rcases h with h | h <;> subst h <;> rfl
theorem nar_b1 {x : Int} (h : b1R x) : narrow .boolean (vI x) = vI x := by
  rcases h with h | h <;> subst h <;> rfl
theorem aI_up {N : Nat} {g : Int → Int32} {i : Int} {x : Int32} (h : ixR i N) : up (fun n => g n) i.toNat x = fun n : Nat => upI g i x n := by
  funext n
  unfold up upI
  have h1 := h.1
  by_cases hn : n = i.toNat
  · rw [if_pos hn, if_pos (by omega)]
  · rw [if_neg hn, if_neg (by omega)]
/-- locals of which nothing is said, but that none is a long's -/
def DD : List (Option Value) → Prop
  | [] => True
  | d :: l => mn_c2 (some d) = false ∧ DD l
theorem mn_st1_D {xs xs' : List (Option Value)} {k : Nat} {v : Value} (hl : k < xs.length) (hc : mn_c2 xs[k - 1]? = false) (he : xs.set k (some v) = xs') : mn_st1 xs k v = some xs' := by
  subst he
  unfold mn_st1
  rw [if_pos ⟨hl, fun _ => hc⟩]
section RS9
variable {sc : Option (List Int32)} {fr lo j pc : Nat} {xs xs' : List (Option Value)} {st : List Value} {ns : Nat} {hs : mn_H}
theorem st_i {k : Nat} {x : Int32} (h : mn_st1 xs k (.int x) = some xs') : mn_op j fr lo sc (.istore k, 2) pc xs (.int x :: st) ns hs = some (pc + 2, xs', st, ns, hs) := by
  have e : mn_opA (.istore k, 2) pc xs (.int x :: st) ns hs = some (pc + 2, xs', st, ns, hs) := by simp only [mn_opA, h]; rfl
  unfold mn_op
  rw [e]
theorem st_in {k : Fin 4} {x : Int32} (h : mn_st1 xs (k : Nat) (.int x) = some xs') : mn_op j fr lo sc (.istore_n k, 1) pc xs (.int x :: st) ns hs = some (pc + 1, xs', st, ns, hs) := by
  have e : mn_opA (.istore_n k, 1) pc xs (.int x :: st) ns hs = some (pc + 1, xs', st, ns, hs) := by simp only [mn_opA, h]; rfl
  unfold mn_op
  rw [e]
theorem st_a {k : Nat} {x : Nat} (h : mn_st1 xs k (.ref x) = some xs') : mn_op j fr lo sc (.astore k, 2) pc xs (.ref x :: st) ns hs = some (pc + 2, xs', st, ns, hs) := by
  have e : mn_opA (.astore k, 2) pc xs (.ref x :: st) ns hs = some (pc + 2, xs', st, ns, hs) := by simp only [mn_opA, h]; rfl
  unfold mn_op
  rw [e]
theorem st_an {k : Fin 4} {x : Nat} (h : mn_st1 xs (k : Nat) (.ref x) = some xs') : mn_op j fr lo sc (.astore_n k, 1) pc xs (.ref x :: st) ns hs = some (pc + 1, xs', st, ns, hs) := by
  have e : mn_opA (.astore_n k, 1) pc xs (.ref x :: st) ns hs = some (pc + 1, xs', st, ns, hs) := by simp only [mn_opA, h]; rfl
  unfold mn_op
  rw [e]
end RS9
section RI
variable {sc : Option (List Int32)} {fr lo j pc : Nat} {xs : List (Option Value)} {st : List Value} {ns : Nat} {hs hs' : mn_H} {r : mn_A}
theorem Ru.kI {pc' : Nat} {q : Instr × Nat} {c : Int} {v : Int32} (hd : decode (mt_code j) pc = .ok q) (ho : mn_op j fr lo sc q pc xs st ns hs = some (pc + q.2, xs, .int v :: st, ns, hs)) (hv : v = eI c) (hq : pc + q.2 = pc') (h : Ru sc fr lo j (pc', xs, vI c :: st, ns, hs) r) : Ru sc fr lo j (pc, xs, st, ns, hs) r := by
  subst hq
  subst hv
  exact Ru.op hd ho h
theorem Ru.inc {pc' : Nat} {k : Nat} {n x z : Int} {xs' : List (Option Value)} (hd : decode (mt_code j) pc = .ok (.iinc k n, 3)) (hx : xs[k]? = some (some (vI x))) (hz : x + n = z) (hs' : mn_st1 xs k (vI z) = some xs') (hq : pc + 3 = pc') (h : Ru sc fr lo j (pc', xs', st, ns, hs) r) : Ru sc fr lo j (pc, xs, st, ns, hs) r := by
  subst hq
  subst hz
  refine Ru.op hd ?_ h
  unfold mn_op
  have e : mn_opA (.iinc k n, 3) pc xs st ns hs = some (pc + 3, xs', st, ns, hs) := by
    simp only [mn_opA, hx]
    have e2 : eI x + Int32.ofInt n = eI (x + n) := (Int32.ofInt_add x n).symm
    rw [e2, hs']
    rfl
  rw [e]
theorem Ru.ar2 {pc' : Nat} {i : Instr} {x y z : Int} (hd : decode (mt_code j) pc = .ok (i, 1)) (hA : mn_opA (i, 1) pc xs (vI y :: vI x :: st) ns hs = none) (hv : mn_ar i (eI x) (eI y) = some (eI z)) (hq : pc + 1 = pc') (h : Ru sc fr lo j (pc', xs, vI z :: st, ns, hs) r) : Ru sc fr lo j (pc, xs, vI y :: vI x :: st, ns, hs) r := by
  subst hq
  refine Ru.op hd ?_ h
  unfold mn_op
  simp only [hA, mn_opB, hv, Option.map_some]
theorem Ru.i2c {pc' : Nat} {x : Int} (hd : decode (mt_code j) pc = .ok (.i2c, 1)) (hx : chR x) (hq : pc + 1 = pc') (h : Ru sc fr lo j (pc', xs, vI x :: st, ns, hs) r) : Ru sc fr lo j (pc, xs, vI x :: st, ns, hs) r := by
  subst hq
  refine Ru.op (S' := (pc + 1, xs, .int ((eI x).toUInt32 % 65536).toInt32 :: st, ns, hs)) hd ?_ (by rw [eI_chr hx]; exact h)
  cases st with
  | nil => rfl
  | cons v st => cases v <;> rfl
theorem Ru.putH {pc' : Nat} {i ci k nn a : Nat} {z : Int} {vs : List Value} {v : Value} (hd : decode (mt_code j) pc = .ok (.putfield i, 3)) (hp : mt_pl j i = (1, ci, k, nn, z)) (ha : hs[a]? = some (ci, vs)) (hci : ci < 50) (hk : k < vs.length) (hf : mn_fk (mt_ft ci k) v = true) (hfi : mt_fi ci k = true → mt_in j = true ∧ ci = mt_ow j) (he : hs.set a (ci, vs.set k v) = hs') (hq : pc + 3 = pc') (h : Ru sc fr lo j (pc', xs, st, ns, hs') r) : Ru sc fr lo j (pc, xs, v :: .ref a :: st, ns, hs) r := by
  subst hq
  subst he
  exact Ru.put hd hp ha hci hk hf hfi h
theorem Ru.getI {pc' : Nat} {i ci k nn a : Nat} {z x : Int} {vs : List Value} {v : Int32} (hd : decode (mt_code j) pc = .ok (.getfield i, 3)) (hp : mt_pl j i = (1, ci, k, nn, z)) (ha : hs[a]? = some (ci, vs)) (hci : ci < 50) (hv : vs[k]? = some (.int v)) (hx : eI x = v) (hq : pc + 3 = pc') (h : Ru sc fr lo j (pc', xs, vI x :: st, ns, hs) r) : Ru sc fr lo j (pc, xs, .ref a :: st, ns, hs) r := by
  subst hq
  subst hx
  exact Ru.get hd hp ha hci hv h
theorem Ru.getR {pc' : Nat} {i ci k nn a : Nat} {z : Int} {vs : List Value} {v : Value} (hd : decode (mt_code j) pc = .ok (.getfield i, 3)) (hp : mt_pl j i = (1, ci, k, nn, z)) (ha : hs[a]? = some (ci, vs)) (hci : ci < 50) (hv : vs[k]? = some v) (hq : pc + 3 = pc') (h : Ru sc fr lo j (pc', xs, v :: st, ns, hs) r) : Ru sc fr lo j (pc, xs, .ref a :: st, ns, hs) r := by
  subst hq
  exact Ru.get hd hp ha hci hv h
theorem Ru.callI {pc' : Nat} {q : Instr × Nat} {j2 : Nat} {as r0 st' : List Value} {v : Option Value} {ns1 : Nat} {hs1 : mn_H} (hd : decode (mt_code j) pc = .ok q) (ho : mn_op j fr lo sc q pc xs st ns hs = none) (he : mn_end (mt_rt j) q st = none) (ht : mn_thr (mt_code j) (mt_pl j) (mt_hl j).isEmpty fr lo q pc st = none)
    (hcal : mn_cal (mt_pl j) mt_na q st hs = some (j2, as, r0)) (hc : 1 ≤ fr ∧ 19 + mt_ml j2 ≤ lo ∧ mn_cat r0 ≤ 8 ∧ (mn_ent as).length ≤ mt_ml j2)
    (h1 : Ru none (fr - 1) (lo - (19 + mt_ml j2)) j2 (0, mn_pad (mn_ent as) (mt_ml j2), [], ns, hs) ((0, v), ns1, hs1)) (hq : pc + 3 = pc') (hst : v.toList ++ r0 = st') (h2 : Ru sc fr lo j (pc', xs, st', ns1, hs1) r) : Ru sc fr lo j (pc, xs, st, ns, hs) r := by
  subst hq hst
  exact Ru.call hd ho he ht hcal hc h1 h2
theorem Ru.vcallI {pc' : Nat} {i j2 ci a k : Nat} {z : Int} {as r0 vs st' : List Value} {v : Option Value} {ns1 : Nat} {hs1 : mn_H} (hd : decode (mt_code j) pc = .ok (.invokevirtual i, 3)) (hp : mt_pl j i = (8, j2, ci, k, z)) (h0 : st.drop (mt_na j2) = .ref a :: r0) (hA : (st.take (mt_na j2)).reverse = as) (ha : hs[a]? = some (ci, vs)) (hci : ci < 50) (hc : 1 ≤ fr ∧ 19 + mt_ml j2 ≤ lo ∧ mn_cat r0 ≤ 8 ∧ (mn_ent (.ref a :: as)).length ≤ mt_ml j2)
    (h1 : Ru none (fr - 1) (lo - (19 + mt_ml j2)) j2 (0, mn_pad (mn_ent (.ref a :: as)) (mt_ml j2), [], ns, hs) ((0, v), ns1, hs1)) (hq : pc + 3 = pc') (hst : v.toList ++ r0 = st') (h2 : Ru sc fr lo j (pc', xs, st', ns1, hs1) r) : Ru sc fr lo j (pc, xs, st, ns, hs) r := by
  subst hq hst
  exact Ru.vcall hd hp h0 hA ha hci hc h1 h2
theorem Ru.ildI {pc' : Nat} {a N : Nat} {i z : Int} {g : Int → Int32} (hd : decode (mt_code j) pc = .ok (.iaload, 1)) (ha : hs[a]? = some (50, aI N g)) (hi : ixR i N) (hz : eI z = g i) (hq : pc + 1 = pc') (h : Ru sc fr lo j (pc', xs, vI z :: st, ns, hs) r) : Ru sc fr lo j (pc, xs, vI i :: .ref a :: st, ns, hs) r := by
  subst hq
  have h1 := hi.1
  have h2 := hi.2
  have e : g (i.toNat : Int) = eI z := by rw [Int.toNat_of_nonneg h1, hz]
  refine Ru.iald hd ha (eI_nI h1) ?_ (aF_get (fun n : Nat => g n) (show i.toNat < N by omega)) (by rw [e]; exact h)
  omega
theorem Ru.bldI {pc' : Nat} {a N : Nat} {i z : Int} {g : Int → Int32} (hd : decode (mt_code j) pc = .ok (.baload, 1)) (ha : hs[a]? = some (51, aI N g)) (hi : ixR i N) (hz : eI z = g i) (hq : pc + 1 = pc') (h : Ru sc fr lo j (pc', xs, vI z :: st, ns, hs) r) : Ru sc fr lo j (pc, xs, vI i :: .ref a :: st, ns, hs) r := by
  subst hq
  have h1 := hi.1
  have h2 := hi.2
  have e : g (i.toNat : Int) = eI z := by rw [Int.toNat_of_nonneg h1, hz]
  refine Ru.bald hd ha (eI_nI h1) ?_ (aF_get (fun n : Nat => g n) (show i.toNat < N by omega)) (by rw [e]; exact h)
  omega
theorem Ru.cldI {pc' : Nat} {a N : Nat} {i z : Int} {g : Int → Int32} (hd : decode (mt_code j) pc = .ok (.caload, 1)) (ha : hs[a]? = some (52, aI N g)) (hi : ixR i N) (hz : eI z = g i) (hq : pc + 1 = pc') (h : Ru sc fr lo j (pc', xs, vI z :: st, ns, hs) r) : Ru sc fr lo j (pc, xs, vI i :: .ref a :: st, ns, hs) r := by
  subst hq
  have h1 := hi.1
  have h2 := hi.2
  have e : g (i.toNat : Int) = eI z := by rw [Int.toNat_of_nonneg h1, hz]
  refine Ru.cald hd ha (eI_nI h1) ?_ (aF_get (fun n : Nat => g n) (show i.toNat < N by omega)) (by rw [e]; exact h)
  omega
theorem Ru.istI {pc' : Nat} {a N : Nat} {i x : Int} {g : Int → Int32} (hd : decode (mt_code j) pc = .ok (.iastore, 1)) (ha : hs[a]? = some (50, aI N g)) (hi : ixR i N) (he : hs.set a (50, aI N (upI g i (eI x))) = hs') (hq : pc + 1 = pc') (h : Ru sc fr lo j (pc', xs, st, ns, hs') r) : Ru sc fr lo j (pc, xs, vI x :: vI i :: .ref a :: st, ns, hs) r := by
  subst hq
  subst he
  have h1 := hi.1
  have h2 := hi.2
  have e : (aI N g).set i.toNat (.int (eI x)) = aI N (upI g i (eI x)) := by unfold aI; rw [aF_set, aI_up hi]
  refine Ru.iast hd ha (eI_nI h1) (by omega) (by show i.toNat < (aF N _).length; rw [aF_len]; omega) ?_
  rw [e]
  exact h
theorem Ru.bstI {pc' : Nat} {a N : Nat} {i x : Int} {g : Int → Int32} (hd : decode (mt_code j) pc = .ok (.bastore, 1)) (ha : hs[a]? = some (51, aI N g)) (hi : ixR i N) (hx : b1R x) (he : hs.set a (51, aI N (upI g i (eI x))) = hs') (hq : pc + 1 = pc') (h : Ru sc fr lo j (pc', xs, st, ns, hs') r) : Ru sc fr lo j (pc, xs, vI x :: vI i :: .ref a :: st, ns, hs) r := by
  subst hq
  subst he
  have h1 := hi.1
  have h2 := hi.2
  have e : (aI N g).set i.toNat (.int (eI x)) = aI N (upI g i (eI x)) := by unfold aI; rw [aF_set, aI_up hi]
  refine Ru.bast hd ha (eI_nI h1) (by omega) (by show i.toNat < (aF N _).length; rw [aF_len]; omega) ?_
  have e2 : vp_nar .boolean (eI x) = eI x := eI_b1 hx
  rw [e2, e]
  exact h
theorem Ru.cstI {pc' : Nat} {a N : Nat} {i x : Int} {g : Int → Int32} (hd : decode (mt_code j) pc = .ok (.castore, 1)) (ha : hs[a]? = some (52, aI N g)) (hi : ixR i N) (hx : chR x) (he : hs.set a (52, aI N (upI g i (eI x))) = hs') (hq : pc + 1 = pc') (h : Ru sc fr lo j (pc', xs, st, ns, hs') r) : Ru sc fr lo j (pc, xs, vI x :: vI i :: .ref a :: st, ns, hs) r := by
  subst hq
  subst he
  have h1 := hi.1
  have h2 := hi.2
  have e : (aI N g).set i.toNat (.int (eI x)) = aI N (upI g i (eI x)) := by unfold aI; rw [aF_set, aI_up hi]
  refine Ru.cast hd ha (eI_nI h1) (by omega) (by show i.toNat < (aF N _).length; rw [aF_len]; omega) ?_
  have e2 : vp_nar .char (eI x) = eI x := eI_ch2 hx
  rw [e2, e]
  exact h
theorem aR_get {N n : Nat} (g : Int → Option Nat) (h : n < N) : (aR N g)[n]? = some (rV (g n)) := by
  unfold aR
  rw [List.getElem?_map, List.getElem?_range h]
  rfl
theorem Ru.aldI {pc' : Nat} {a N b tg : Nat} {i : Int} {g : Int → Option Nat} (hd : decode (mt_code j) pc = .ok (.aaload, 1)) (ha : hs[a]? = some (tg, aR N g)) (ht : 54 ≤ tg ∧ tg < 56) (hi : ixR i N) (hb : g i = some b) (hq : pc + 1 = pc') (h : Ru sc fr lo j (pc', xs, .ref b :: st, ns, hs) r) : Ru sc fr lo j (pc, xs, vI i :: .ref a :: st, ns, hs) r := by
  subst hq
  have h1 := hi.1
  have h2 := hi.2
  refine Ru.ald hd ha ht (eI_nI h1) (by omega) ?_ h
  rw [aR_get g (show i.toNat < N by omega), Int.toNat_of_nonneg h1, hb]
  rfl
theorem Ru.astI {pc' : Nat} {a N b tg tw : Nat} {i : Int} {g : Int → Option Nat} {w : List Value} (hd : decode (mt_code j) pc = .ok (.aastore, 1)) (ha : hs[a]? = some (tg, aR N g)) (hb : hs[b]? = some (tw, w)) (ht : 54 ≤ tg ∧ tg < 56) (hv : tw = mt_ak (tg - 50)) (hv2 : tw < 50) (hi : ixR i N) (he : hs.set a (tg, aR N (upI g i (some b))) = hs') (hq : pc + 1 = pc') (h : Ru sc fr lo j (pc', xs, st, ns, hs') r) : Ru sc fr lo j (pc, xs, .ref b :: vI i :: .ref a :: st, ns, hs) r := by
  subst hq
  subst he
  have h1 := hi.1
  have h2 := hi.2
  have hl : (aR N g).length = N := by unfold aR; rw [List.length_map, List.length_range]
  refine Ru.ast hd ha hb ht hv hv2 (eI_nI h1) (by omega) (by rw [hl]; omega) ?_
  have e : (aR N g).set i.toNat (.ref b) = aR N (upI g i (some b)) := by
    apply List.ext_getElem?
    intro n
    rw [List.getElem?_set, hl]
    by_cases hn : n < N
    · have e1 := aR_get (N := N) (upI g i (some b)) hn
      have e2 := aR_get (N := N) g hn
      rw [e1, e2]
      by_cases hk : i.toNat = n
      · rw [if_pos hk, if_pos (by omega)]
        have e3 : upI g i (some b) (n : Int) = some b := if_pos (by omega)
        rw [e3]
        rfl
      · have e3 : upI g i (some b) (n : Int) = g n := if_neg (by omega)
        rw [if_neg hk, e3]
    · have h3 : (aR N g)[n]? = none := List.getElem?_eq_none (by rw [hl]; omega)
      have h4 : (aR N (upI g i (some b)))[n]? = none := List.getElem?_eq_none (by unfold aR; rw [List.length_map, List.length_range]; omega)
      rw [h3, h4]
      split
      · rw [if_neg (by omega)]
      · rfl
  rw [e]
  exact h
theorem Ru.lenI {pc' : Nat} {a N : Nat} {z : Int} {tg : Nat} {vs : List Value} (hd : decode (mt_code j) pc = .ok (.arraylength, 1)) (ha : hs[a]? = some (tg, vs)) (ht : 50 ≤ tg ∧ tg < 56) (hN : vs.length = N) (hz : (N : Int) = z) (hq : pc + 1 = pc') (h : Ru sc fr lo j (pc', xs, vI z :: st, ns, hs) r) : Ru sc fr lo j (pc, xs, .ref a :: st, ns, hs) r := by
  subst hq
  subst hz hN
  refine Ru.len hd ha ht ?_
  have e : nI vs.length = eI (vs.length : Int) := by rw [eI_nI (Int.natCast_nonneg _), Int.toNat_natCast]
  rw [e]
  exact h
theorem aI_len (N : Nat) (g : Int → Int32) : (aI N g).length = N := aF_len _ _
theorem Ru.maxI {pc' : Nat} {i : Nat} {x y : Int} {k : mn_K} (hd : decode (mt_code j) pc = .ok (.invokestatic i, 3)) (hp : mt_pl j i = (12, k.2)) (hx : inR x) (hy : inR y) (h1 : 1 ≤ fr) (h2 : mn_cat st + 13 ≤ lo) (hq : pc + 3 = pc') (h : Ru sc fr lo j (pc', xs, vI (max x y) :: st, ns, hs) r) : Ru sc fr lo j (pc, xs, vI y :: vI x :: st, ns, hs) r := by
  subst hq
  refine Ru.op hd ?_ h
  have e : mn_opE (mt_pl j) fr lo (.invokestatic i, 3) pc xs (vI y :: vI x :: st) ns hs = some (pc + 3, xs, vI (max x y) :: st, ns, hs) := by
    simp only [mn_opE, hp]
    rw [if_pos ⟨h1, h2⟩]
    congr 6
    by_cases hc : x < y
    · rw [if_pos ((eI_lt hx hy).mpr hc), Int.max_eq_right (by omega)]
    · rw [if_neg (fun e => hc ((eI_lt hx hy).mp e)), Int.max_eq_left (by omega)]
  unfold mn_op
  simp only [mn_opA, mn_opB, mn_opB1, mn_opC, mn_opD, e]
theorem Ru.minI {pc' : Nat} {i : Nat} {x y : Int} {k : mn_K} (hd : decode (mt_code j) pc = .ok (.invokestatic i, 3)) (hp : mt_pl j i = (13, k.2)) (hx : inR x) (hy : inR y) (h1 : 1 ≤ fr) (h2 : mn_cat st + 13 ≤ lo) (hq : pc + 3 = pc') (h : Ru sc fr lo j (pc', xs, vI (min x y) :: st, ns, hs) r) : Ru sc fr lo j (pc, xs, vI y :: vI x :: st, ns, hs) r := by
  subst hq
  refine Ru.op hd ?_ h
  have e : mn_opE (mt_pl j) fr lo (.invokestatic i, 3) pc xs (vI y :: vI x :: st) ns hs = some (pc + 3, xs, vI (min x y) :: st, ns, hs) := by
    simp only [mn_opE, hp]
    rw [if_pos ⟨h1, h2⟩]
    congr 6
    by_cases hc : y < x
    · rw [if_pos ((eI_lt hy hx).mpr hc), Int.min_eq_right (by omega)]
    · rw [if_neg (fun e => hc ((eI_lt hy hx).mp e)), Int.min_eq_left (by omega)]
  unfold mn_op
  simp only [mn_opA, mn_opB, mn_opB1, mn_opC, mn_opD, e]
theorem Ru.nwI {pc' : Nat} {i ci k nn n : Nat} {z : Int} {S : St} (hd : decode (mt_code j) pc = .ok (.new i, 3)) (hp : mt_pl j i = (2, ci, k, nn, z)) (hci : ci < 50) (hn : (mt_df ci).length = n) (hq : pc + 3 = pc') (h : Ru sc fr lo j (pc', xs, .ref S.top :: st, (S.nw ci n).ns, Hp (S.nw ci n)) r) : Ru sc fr lo j (pc, xs, st, S.ns, Hp S) r := by
  subst hq
  subst hn
  refine Ru.op (S' := (pc + 3, xs, .ref (Hp S).length :: st, S.ns + (mt_df ci).length, Hp S ++ [(ci, mt_df ci)])) hd ?_ ?_
  · unfold mn_op
    simp only [mn_opA, mn_opB, mn_opB1, mn_opC, mn_opD, hp]
    rw [if_pos hci]
  · rw [Hp_len, nw_ok S ci (mt_df ci).length]
    exact h
end RI
theorem nar_ch {x : Int} (h : chR x) : narrow .char (vI x) = vI x := by
  show Value.int _ = _
  rw [eI_ch2 h]
theorem tho {fr lo j pc k : Nat} {xs : List (Option Value)} {st : List Value} {S : St} (h : Ru none fr lo j (pc, xs, st, S.ns, Hp S) ((k + 1, none), S.ns + 6, Hp S ++ [(99, [])])) : Ru none fr lo j (pc, xs, st, S.ns, Hp S) ((k + 1, tv (k + 1) 0), S.ho.ns, Hp S.ho) := by
  rw [ho_ok] at h
  exact h
section RJ
variable {sc : Option (List Int32)} {fr lo j pc : Nat} {xs : List (Option Value)} {st : List Value} {ns : Nat} {hs hs' : mn_H} {r : mn_A}
theorem Ru.lsw {d : Int} {ps : Array (Int × Int)} {len : Nat} {x : Int32} {tg : Nat} (hd : decode (mt_code j) pc = .ok (.lookupswitch d ps, len)) (hx : mn_opC (.lookupswitch d ps, len) pc [] [.int x] 0 [] = some (tg, [], [], 0, [])) (h : Ru sc fr lo j (tg, xs, st, ns, hs) r) : Ru sc fr lo j (pc, xs, .int x :: st, ns, hs) r := by
  refine Ru.op hd (mn_op_C (by cases len <;> rfl) ?_ ?_ ?_) h
  · unfold mn_opB
    split
    · next h9 => cases h9; split <;> rfl
    · rfl
  · unfold mn_opB1
    split
    · next h9 => cases h9; rfl
    · rfl
  · simp only [mn_opC] at hx ⊢
    split at hx
    · next h1 =>
      simp only [Option.some.injEq, Prod.mk.injEq, and_true] at hx
      rw [if_pos h1, hx]
    · cases hx
theorem lsw_o {d x : Int} : ∀ {l : List (Int × Int)}, (∀ q ∈ l, q.1 ≠ x) → Op.lookupswitch.offset l d x = d := by
  intro l
  induction l with
  | nil => intro _; rfl
  | cons q l ih =>
    intro h
    have h1 := h q List.mem_cons_self
    show (if q.1 = x then q.2 else Op.lookupswitch.offset l d x) = d
    rw [if_neg h1]
    exact ih (fun y hy => h y (List.mem_cons_of_mem _ hy))
theorem lsw_d {d x : Int} {ps : Array (Int × Int)} {l : List (Int × Int)} {len tg : Nat} (hx : inR x) (hl : ps.toList = l) (ho : (l.zip (l.drop 1)).all (fun (a, next) => a.1 < next.1) = true) (hg : mn_gook pc d = true) (ht : mn_go pc d = tg) (hn : ∀ q ∈ l, q.1 ≠ x) : mn_opC (.lookupswitch d ps, len) pc [] [.int (eI x)] 0 [] = some (tg, [], [], 0, []) := by
  subst hl ht
  simp only [mn_opC]
  rw [eI_to hx, lsw_o hn, if_pos ⟨ho, hg⟩]
theorem Ru.naI {n : Int} (hd : decode (mt_code j) pc = .ok (.newarray .int, 2)) (hn : 0 ≤ n ∧ n ≤ 100000) (h : Ru sc fr lo j (pc + 2, xs, .ref hs.length :: st, ns + n.toNat, hs ++ [(50, aI n.toNat (fun _ => 0))]) r) : Ru sc fr lo j (pc, xs, vI n :: st, ns, hs) r := by
  refine Ru.op (S' := (pc + 2, xs, .ref hs.length :: st, ns + n.toNat, hs ++ [(50, aI n.toNat (fun _ => 0))])) hd ?_ h
  have e : (eI n).toNatClampNeg = n.toNat := by rw [eI_nI hn.1]; exact nI_clamp (by omega)
  have e2 : ¬ (eI n < 0 ∨ 100000 < (eI n).toNatClampNeg) := by
    rw [e]
    rintro (h | h)
    · rw [← eI_0, eI_lt ⟨by omega, by omega⟩ (by decide)] at h; omega
    · omega
  have e3 : List.replicate n.toNat (Value.int 0) = aI n.toNat (fun _ => 0) := aF_rep _ _
  unfold mn_op
  cases st with
  | nil => simp only [mn_opA, mn_opB, mn_opB1, mn_opC, mn_opD]; rw [if_neg e2, e, e3]
  | cons v st => cases v <;> (simp only [mn_opA, mn_opB, mn_opB1, mn_opC, mn_opD]; rw [if_neg e2, e, e3])
theorem cp_list {N0 N sp dp n : Nat} {f g : Nat → Int32} (h1 : sp + n ≤ N0) (h2 : dp + n ≤ N) : mn_cpy (aF N0 f) (aF N g) sp dp n = aF N (fun i => if dp ≤ i ∧ i < dp + n then f (i - dp + sp) else g i) := by
  apply List.ext_getElem?
  intro i
  have l1 : ((aF N g).take dp).length = dp := by rw [List.length_take, aF_len]; omega
  have l2 : (((aF N0 f).drop sp).take n).length = n := by rw [List.length_take, List.length_drop, aF_len]; omega
  unfold mn_cpy
  by_cases c1 : i < dp
  · rw [List.append_assoc, List.getElem?_append_left (by omega), List.getElem?_take_of_lt c1, aF_get _ (by omega), aF_get _ (by omega), if_neg (by omega)]
  · by_cases c2 : i < dp + n
    · rw [List.append_assoc, List.getElem?_append_right (by omega), l1, List.getElem?_append_left (by omega), List.getElem?_take_of_lt (by omega), List.getElem?_drop, aF_get _ (by omega), aF_get _ (by omega), if_pos ⟨by omega, c2⟩]
      congr 3
      omega
    · rw [List.getElem?_append_right (by rw [List.length_append]; omega), List.length_append, l1, l2, List.getElem?_drop]
      rw [show dp + n + (i - (dp + n)) = i by omega]
      by_cases c3 : i < N
      · rw [aF_get _ c3, aF_get _ c3, if_neg (by omega)]
      · rw [List.getElem?_eq_none (by rw [aF_len]; omega), List.getElem?_eq_none (by rw [aF_len]; omega)]
theorem Ru.acI {pc' : Nat} {i a a0 N0 N : Nat} {sp dp n : Int} {f g : Int → Int} {k : mn_K} (hd : decode (mt_code j) pc = .ok (.invokestatic i, 3)) (hp : mt_pl j i = (11, k.2)) (h0 : hs[a0]? = some (50, aI N0 (fun i => eI (f i)))) (h1 : hs[a]? = some (50, aI N (fun i => eI (g i)))) (hR : cpR N0 N sp dp n) (hfr : 1 ≤ fr) (hlo : mn_cat st + (nativeFrameWords "java/lang/System" "arraycopy" 5 + 11) ≤ lo) (he : hs.set a (50, aI N (cpI f g sp dp n)) = hs') (hq : pc + 3 = pc') (h : Ru sc fr lo j (pc', xs, st, ns, hs') r) : Ru sc fr lo j (pc, xs, vI n :: vI dp :: .ref a :: vI sp :: .ref a0 :: st, ns, hs) r := by
  subst hq
  subst he
  obtain ⟨c1, c2, c3, c4, c5, c6, c7⟩ := hR
  have es : (eI sp).toNatClampNeg = sp.toNat := by rw [eI_nI c1]; exact nI_clamp (by omega)
  have ed : (eI dp).toNatClampNeg = dp.toNat := by rw [eI_nI c2]; exact nI_clamp (by omega)
  have en : (eI n).toNatClampNeg = n.toNat := by rw [eI_nI c3]; exact nI_clamp (by omega)
  have gs : ¬ eI sp < 0 := by rw [← eI_0, eI_lt ⟨by omega, by omega⟩ (by decide)]; omega
  have gdp : ¬ eI dp < 0 := by rw [← eI_0, eI_lt ⟨by omega, by omega⟩ (by decide)]; omega
  have gn : ¬ eI n < 0 := by rw [← eI_0, eI_lt ⟨by omega, by omega⟩ (by decide)]; omega
  have el : mn_cpy (aI N0 (fun i => eI (f i))) (aI N (fun i => eI (g i))) sp.toNat dp.toNat n.toNat = aI N (cpI f g sp dp n) := by
    unfold aI
    rw [cp_list (by omega) (by omega)]
    apply aF_ext
    intro q hq
    unfold cpI
    by_cases hc : dp.toNat ≤ q ∧ q < dp.toNat + n.toNat
    · rw [if_pos hc, if_pos (by omega)]
      congr 2
      omega
    · rw [if_neg hc, if_neg (by omega)]
  have e : mn_opE (mt_pl j) fr lo (.invokestatic i, 3) pc xs (vI n :: vI dp :: .ref a :: vI sp :: .ref a0 :: st) ns hs = some (pc + 3, xs, st, ns, hs.set a (50, aI N (cpI f g sp dp n))) := by
    simp only [mn_opE, hp, h0, h1]
    rw [es, ed, en, el, if_pos ⟨hfr, hlo, gs, gdp, gn, by rw [aI_len]; omega, by rw [aI_len]; omega⟩]
  refine Ru.op hd ?_ h
  unfold mn_op
  simp only [mn_opA, mn_opB, mn_opB1, mn_opC, mn_opD, e]
end RJ
theorem c5_heap {S : St} {a : Nat} {n m : Int} (ha : 72 ≤ a) (hl : a < (Hp S).length) : ((((Hp S ++ [(50, aI n.toNat (fun _ => 0))]).set a (5, [.ref (Hp S).length, .null, .int 0, .int 0])) ++ [(50, aI (m + 1).toNat (fun _ => 0))]).set a (5, [.ref (Hp S).length, .ref ((Hp S).length + 1), .int 0, .int 0])) = Hp (S.c5 a n m) := by
  rw [List.set_append_left _ _ hl, List.append_assoc, List.set_append_left _ _ (by rw [List.length_set]; exact hl), List.set_set]
  have e := pt_ok (S := S) (c := a) (x := .ob 5 [S.top, S.top + 1] [0, 0]) ha
  have e2 : (Cl.ob 5 [S.top, S.top + 1] [0, 0]).en = (5, [.ref (Hp S).length, .ref ((Hp S).length + 1), .int 0, .int 0]) := by rw [Hp_len]; rfl
  rw [← e2, e]
  unfold Hp
  show (fx S ++ (S.tl.set (a - 72) (Cl.ob 5 [S.top, S.top + 1] [0, 0])).map Cl.en) ++ _ = fx S ++ ((S.tl.set (a - 72) (Cl.ob 5 [S.top, S.top + 1] [0, 0])) ++ [Cl.ar n.toNat (fun _ => 0), Cl.ar (m + 1).toNat (fun _ => 0)]).map Cl.en
  rw [List.map_append, List.append_assoc]
  rfl
set_option maxRecDepth 100000 in
theorem ctor5_ok {S : St} {a : Nat} {n m : Int} (ha : 72 ≤ a) (hc : S.tl[a - 72]? = some (.nw 5)) (hg : c5R n m) : Ru none 10 200 5 (0, mn_pad (mn_ent [.ref a, vI n, vI m]) 3, [], S.ns, Hp S) ((0, none), (S.c5 a n m).ns, Hp (S.c5 a n m)) := by
  have h0 : (Hp S)[a]? = some (5, [.null, .null, .int 0, .int 0]) := by rw [Hp_tl ha, hc]; rfl
  have hl : a < (Hp S).length := (List.getElem?_eq_some_iff.mp h0).1
  obtain ⟨c1, c2, c3, c4⟩ := hg
  rw [← c5_heap ha hl]
  refine Ru.op (q := (.aload_n 0, 1)) (by decide +kernel) rfl ?_
  refine Ru.op (q := (.invokespecial 1, 3)) (by decide +kernel) rfl ?_
  refine Ru.op (q := (.aload_n 0, 1)) (by decide +kernel) rfl ?_
  refine Ru.op (q := (.iload_n 1, 1)) (by decide +kernel) rfl ?_
  refine Ru.naI (by decide +kernel) ⟨c1, c2⟩ ?_
  refine Ru.put (i := 7) (by decide +kernel) (by rfl) (by rw [List.getElem?_append_left hl]; exact h0) (by decide) (Nat.le_of_ble_eq_true rfl) (by rfl) (by decide +kernel) ?_
  refine Ru.op (q := (.aload_n 0, 1)) (by decide +kernel) rfl ?_
  refine Ru.op (q := (.iload_n 2, 1)) (by decide +kernel) rfl ?_
  refine Ru.kI (q := (.iconst 1, 1)) (c := 1) (by decide +kernel) rfl (by decide) rfl ?_
  refine Ru.ar2 (i := .iadd) (z := m + 1) (by decide +kernel) rfl (ar_add _ _) rfl ?_
  refine Ru.naI (by decide +kernel) ⟨by omega, by omega⟩ ?_
  refine Ru.put (i := 13) (vs := [.ref (Hp S).length, .null, .int 0, .int 0]) (by decide +kernel) (by rfl) (by rw [List.getElem?_append_left (by rw [List.length_set, List.length_append]; omega), List.getElem?_set_self (by rw [List.length_append]; omega)]; rfl) (by decide) (Nat.le_of_ble_eq_true rfl) (by rfl) (by decide +kernel) ?_
  have el : ((Hp S ++ [(50, aI n.toNat (fun _ => 0))]).set a (5, [Value.null, .null, .int 0, .int 0].set 0 (.ref (Hp S).length))).length = (Hp S).length + 1 := by rw [List.length_set, List.length_append]; rfl
  rw [el]
  exact Ru.end (q := (.return_, 1)) (by decide +kernel) rfl rfl
set_option maxRecDepth 100000 in
theorem ctor9_ok {S : St} {a v1 : Nat} {v2 v3 v4 v5 v6 : Int} (ha : 72 ≤ a) (hc : S.tl[a - 72]? = some (.nw 9)) : Ru none 10 200 59 (0, mn_pad (mn_ent [.ref a, .ref v1, vI v2, vI v3, vI v4, vI v5, vI v6]) 7, [], S.ns, Hp S) ((0, none), S.ns, Hp (S.t a (.ob 9 [v1] [0, eI v2, eI v3, eI v4, eI v5, eI v6]))) := by
  have h0 : (Hp S)[a]? = some (9, [.null, .int 0, .int 0, .int 0, .int 0, .int 0, .int 0]) := by rw [Hp_tl ha, hc]; rfl
  rw [← pt_ok ha]
  refine Ru.op (q := (.aload_n 0, 1)) (by decide +kernel) rfl ?_
  refine Ru.op (q := (.invokespecial 3, 3)) (by decide +kernel) rfl ?_
  refine Ru.op (q := (.aload_n 0, 1)) (by decide +kernel) rfl ?_
  refine Ru.op (q := (.aload_n 1, 1)) (by decide +kernel) rfl ?_
  refine Ru.put (i := 9) (by decide +kernel) (by rfl) (h0) (by decide) (Nat.le_of_ble_eq_true rfl) (by rfl) (by decide +kernel) ?_
  refine Ru.op (q := (.aload_n 0, 1)) (by decide +kernel) rfl ?_
  refine Ru.op (q := (.iload_n 2, 1)) (by decide +kernel) rfl ?_
  refine Ru.put (i := 15) (by decide +kernel) (by rfl) (h_set h0) (by decide) (Nat.le_of_ble_eq_true rfl) (by rfl) (by decide +kernel) ?_
  rw [List.set_set]
  refine Ru.op (q := (.aload_n 0, 1)) (by decide +kernel) rfl ?_
  refine Ru.op (q := (.iconst 0, 1)) (by decide +kernel) rfl ?_
  refine Ru.put (i := 19) (by decide +kernel) (by rfl) (h_set h0) (by decide) (Nat.le_of_ble_eq_true rfl) (by rfl) (by decide +kernel) ?_
  rw [List.set_set]
  refine Ru.op (q := (.aload_n 0, 1)) (by decide +kernel) rfl ?_
  refine Ru.op (q := (.iload_n 3, 1)) (by decide +kernel) rfl ?_
  refine Ru.put (i := 22) (by decide +kernel) (by rfl) (h_set h0) (by decide) (Nat.le_of_ble_eq_true rfl) (by rfl) (by decide +kernel) ?_
  rw [List.set_set]
  refine Ru.op (q := (.aload_n 0, 1)) (by decide +kernel) rfl ?_
  refine Ru.op (q := (.iload 4, 2)) (by decide +kernel) rfl ?_
  refine Ru.put (i := 25) (by decide +kernel) (by rfl) (h_set h0) (by decide) (Nat.le_of_ble_eq_true rfl) (by rfl) (by decide +kernel) ?_
  rw [List.set_set]
  refine Ru.op (q := (.aload_n 0, 1)) (by decide +kernel) rfl ?_
  refine Ru.op (q := (.iload 5, 2)) (by decide +kernel) rfl ?_
  refine Ru.put (i := 28) (by decide +kernel) (by rfl) (h_set h0) (by decide) (Nat.le_of_ble_eq_true rfl) (by rfl) (by decide +kernel) ?_
  rw [List.set_set]
  refine Ru.op (q := (.aload_n 0, 1)) (by decide +kernel) rfl ?_
  refine Ru.op (q := (.iload 6, 2)) (by decide +kernel) rfl ?_
  refine Ru.put (i := 31) (by decide +kernel) (by rfl) (h_set h0) (by decide) (Nat.le_of_ble_eq_true rfl) (by rfl) (by decide +kernel) ?_
  rw [List.set_set]
  exact Ru.end (q := (.return_, 1)) (by decide +kernel) rfl rfl
