def sh_W0 : Nat → mw_H := fun k => [.inr (7, [.inl 0, .inl 2, .inl 2, .inl 2, .inl 0, .inl 0, .inl 0]), .inr (5, [.inr 2, .inr 3, .inr 4, .inr 5, .inl 0]), .inl (0, 73, .inl 0), .inl (0, 73, .inl 0), .inl (1, 73, .inl 1), .inl (0, 73, .inl 0), .inr (2, [.inl 0, .inr 7, .inl 0]), .inl (0, 2240, .inl 0), .inl (3, 4, .inr [])].getD k (.inr (0, []))
def sh_W1 : Nat → mw_H := fun k => [.inr (7, [.inl 0, .inl 2, .inl 2, .inl 2, .inl 0, .inl 0, .inl 0]), .inr (5, [.inr 2, .inr 3, .inr 4, .inr 5, .inl 0]), .inl (0, 73, .inl 0), .inl (0, 73, .inl 0), .inl (1, 73, .inl 1), .inl (0, 73, .inl 0), .inr (2, [.inl 0, .inr 7, .inl 0]), .inl (0, 2240, .inl 0), .inl (3, 4, .inr [9]), .inr (3, [.inl 0, .inl 0, .inr 1, .inr 6, .inr 20, .inr 10, .inr 13, .inr 15, .inr 17, .inr 19, .inl 1, .inl 1, .inl 0, .inl 0, .inl 0]), .inr (0, [.inr 11, .inr 12, .inl 1, .inl 0]), .inl (0, 48, .inl 0), .inl (0, 4, .inl 0), .inr (4, [.inr 14, .inl 0]), .inl (0, 12, .inl 0), .inr (6, [.inr 16]), .inl (0, 192, .inl 0), .inr (6, [.inr 18]), .inl (0, 192, .inl 0), .inl (0, 3, .inl 0), .inr (1, [.inr 1, .inr 21, .inr 22, .inr 23, .inl 1]), .inl (0, 48, .inl 0), .inl (1, 48, .inl 1), .inl (1, 48, .inl 1)].getD k (.inr (0, []))
def sh_W1b : Nat → mw_H := fun k => [.inr (7, [.inl 0, .inl 2, .inl 2, .inl 2, .inl 0, .inl 0, .inl 0]), .inr (5, [.inr 2, .inr 3, .inr 4, .inr 5, .inl 0]), .inl (0, 73, .inl 0), .inl (0, 73, .inl 0), .inl (1, 73, .inl 1), .inl (0, 73, .inl 0), .inr (2, [.inl 0, .inr 7, .inl 0]), .inl (0, 2240, .inl 0), .inl (3, 4, .inr []), .inr (3, [.inl 0, .inl 0, .inr 1, .inr 6, .inr 20, .inr 10, .inr 13, .inr 15, .inr 17, .inr 19, .inl 1, .inl 1, .inl 0, .inl 0, .inl 0]), .inr (0, [.inr 11, .inr 12, .inl 1, .inl 0]), .inl (0, 48, .inl 0), .inl (0, 4, .inl 0), .inr (4, [.inr 14, .inl 0]), .inl (0, 12, .inl 0), .inr (6, [.inr 16]), .inl (0, 192, .inl 0), .inr (6, [.inr 18]), .inl (0, 192, .inl 0), .inl (0, 3, .inl 0), .inr (1, [.inr 1, .inr 21, .inr 22, .inr 23, .inl 1]), .inl (0, 48, .inl 0), .inl (1, 48, .inl 1), .inl (1, 48, .inl 1)].getD k (.inr (0, []))
def sh_W2 : Nat → mw_H := fun k => [.inr (7, [.inl 0, .inl 2, .inl 2, .inl 2, .inl 0, .inl 0, .inl 0]), .inr (5, [.inr 2, .inr 3, .inr 4, .inr 5, .inl 0]), .inl (0, 73, .inl 0), .inl (0, 73, .inl 0), .inl (1, 73, .inl 1), .inl (0, 73, .inl 0), .inr (2, [.inl 0, .inr 7, .inl 0]), .inl (0, 2240, .inl 0), .inl (3, 4, .inr [9, 24]), .inr (3, [.inl 0, .inl 0, .inr 1, .inr 6, .inr 20, .inr 10, .inr 13, .inr 15, .inr 17, .inr 19, .inl 1, .inl 1, .inl 0, .inl 0, .inl 0]), .inr (0, [.inr 11, .inr 12, .inl 1, .inl 0]), .inl (0, 48, .inl 0), .inl (0, 4, .inl 0), .inr (4, [.inr 14, .inl 0]), .inl (0, 12, .inl 0), .inr (6, [.inr 16]), .inl (0, 192, .inl 0), .inr (6, [.inr 18]), .inl (0, 192, .inl 0), .inl (0, 3, .inl 0), .inr (1, [.inr 1, .inr 21, .inr 22, .inr 23, .inl 1]), .inl (0, 48, .inl 0), .inl (1, 48, .inl 1), .inl (1, 48, .inl 1), .inr (3, [.inl 0, .inl 0, .inr 1, .inr 6, .inr 35, .inr 25, .inr 28, .inr 30, .inr 32, .inr 34, .inl 1, .inl 1, .inl 0, .inl 0, .inl 0]), .inr (0, [.inr 26, .inr 27, .inl 1, .inl 0]), .inl (0, 48, .inl 0), .inl (0, 4, .inl 0), .inr (4, [.inr 29, .inl 0]), .inl (0, 12, .inl 0), .inr (6, [.inr 31]), .inl (0, 192, .inl 0), .inr (6, [.inr 33]), .inl (0, 192, .inl 0), .inl (0, 3, .inl 0), .inr (1, [.inr 1, .inr 36, .inr 37, .inr 38, .inl 1]), .inl (0, 48, .inl 0), .inl (1, 48, .inl 1), .inl (1, 48, .inl 1)].getD k (.inr (0, []))
def sh_W2b : Nat → mw_H := fun k => [.inr (7, [.inl 0, .inl 2, .inl 2, .inl 2, .inl 0, .inl 0, .inl 0]), .inr (5, [.inr 2, .inr 3, .inr 4, .inr 5, .inl 0]), .inl (0, 73, .inl 0), .inl (0, 73, .inl 0), .inl (1, 73, .inl 1), .inl (0, 73, .inl 0), .inr (2, [.inl 0, .inr 7, .inl 0]), .inl (0, 2240, .inl 0), .inl (3, 4, .inr [9]), .inr (3, [.inl 0, .inl 0, .inr 1, .inr 6, .inr 20, .inr 10, .inr 13, .inr 15, .inr 17, .inr 19, .inl 1, .inl 1, .inl 0, .inl 0, .inl 0]), .inr (0, [.inr 11, .inr 12, .inl 1, .inl 0]), .inl (0, 48, .inl 0), .inl (0, 4, .inl 0), .inr (4, [.inr 14, .inl 0]), .inl (0, 12, .inl 0), .inr (6, [.inr 16]), .inl (0, 192, .inl 0), .inr (6, [.inr 18]), .inl (0, 192, .inl 0), .inl (0, 3, .inl 0), .inr (1, [.inr 1, .inr 21, .inr 22, .inr 23, .inl 1]), .inl (0, 48, .inl 0), .inl (1, 48, .inl 1), .inl (1, 48, .inl 1), .inr (3, [.inl 0, .inl 0, .inr 1, .inr 6, .inr 35, .inr 25, .inr 28, .inr 30, .inr 32, .inr 34, .inl 1, .inl 1, .inl 0, .inl 0, .inl 0]), .inr (0, [.inr 26, .inr 27, .inl 1, .inl 0]), .inl (0, 48, .inl 0), .inl (0, 4, .inl 0), .inr (4, [.inr 29, .inl 0]), .inl (0, 12, .inl 0), .inr (6, [.inr 31]), .inl (0, 192, .inl 0), .inr (6, [.inr 33]), .inl (0, 192, .inl 0), .inl (0, 3, .inl 0), .inr (1, [.inr 1, .inr 36, .inr 37, .inr 38, .inl 1]), .inl (0, 48, .inl 0), .inl (1, 48, .inl 1), .inl (1, 48, .inl 1)].getD k (.inr (0, []))
def sh_W3 : Nat → mw_H := fun k => [.inr (7, [.inl 0, .inl 2, .inl 2, .inl 2, .inl 0, .inl 0, .inl 0]), .inr (5, [.inr 2, .inr 3, .inr 4, .inr 5, .inl 0]), .inl (0, 73, .inl 0), .inl (0, 73, .inl 0), .inl (1, 73, .inl 1), .inl (0, 73, .inl 0), .inr (2, [.inl 0, .inr 7, .inl 0]), .inl (0, 2240, .inl 0), .inl (3, 4, .inr [9, 24, 39]), .inr (3, [.inl 0, .inl 0, .inr 1, .inr 6, .inr 20, .inr 10, .inr 13, .inr 15, .inr 17, .inr 19, .inl 1, .inl 1, .inl 0, .inl 0, .inl 0]), .inr (0, [.inr 11, .inr 12, .inl 1, .inl 0]), .inl (0, 48, .inl 0), .inl (0, 4, .inl 0), .inr (4, [.inr 14, .inl 0]), .inl (0, 12, .inl 0), .inr (6, [.inr 16]), .inl (0, 192, .inl 0), .inr (6, [.inr 18]), .inl (0, 192, .inl 0), .inl (0, 3, .inl 0), .inr (1, [.inr 1, .inr 21, .inr 22, .inr 23, .inl 1]), .inl (0, 48, .inl 0), .inl (1, 48, .inl 1), .inl (1, 48, .inl 1), .inr (3, [.inl 0, .inl 0, .inr 1, .inr 6, .inr 35, .inr 25, .inr 28, .inr 30, .inr 32, .inr 34, .inl 1, .inl 1, .inl 0, .inl 0, .inl 0]), .inr (0, [.inr 26, .inr 27, .inl 1, .inl 0]), .inl (0, 48, .inl 0), .inl (0, 4, .inl 0), .inr (4, [.inr 29, .inl 0]), .inl (0, 12, .inl 0), .inr (6, [.inr 31]), .inl (0, 192, .inl 0), .inr (6, [.inr 33]), .inl (0, 192, .inl 0), .inl (0, 3, .inl 0), .inr (1, [.inr 1, .inr 36, .inr 37, .inr 38, .inl 1]), .inl (0, 48, .inl 0), .inl (1, 48, .inl 1), .inl (1, 48, .inl 1), .inr (3, [.inl 0, .inl 0, .inr 1, .inr 6, .inr 50, .inr 40, .inr 43, .inr 45, .inr 47, .inr 49, .inl 1, .inl 1, .inl 0, .inl 0, .inl 0]), .inr (0, [.inr 41, .inr 42, .inl 1, .inl 0]), .inl (0, 48, .inl 0), .inl (0, 4, .inl 0), .inr (4, [.inr 44, .inl 0]), .inl (0, 12, .inl 0), .inr (6, [.inr 46]), .inl (0, 192, .inl 0), .inr (6, [.inr 48]), .inl (0, 192, .inl 0), .inl (0, 3, .inl 0), .inr (1, [.inr 1, .inr 51, .inr 52, .inr 53, .inl 1]), .inl (0, 48, .inl 0), .inl (1, 48, .inl 1), .inl (1, 48, .inl 1)].getD k (.inr (0, []))
def sh_W3b : Nat → mw_H := fun k => [.inr (7, [.inl 0, .inl 2, .inl 2, .inl 2, .inl 0, .inl 0, .inl 0]), .inr (5, [.inr 2, .inr 3, .inr 4, .inr 5, .inl 0]), .inl (0, 73, .inl 0), .inl (0, 73, .inl 0), .inl (1, 73, .inl 1), .inl (0, 73, .inl 0), .inr (2, [.inl 0, .inr 7, .inl 0]), .inl (0, 2240, .inl 0), .inl (3, 4, .inr [9, 24]), .inr (3, [.inl 0, .inl 0, .inr 1, .inr 6, .inr 20, .inr 10, .inr 13, .inr 15, .inr 17, .inr 19, .inl 1, .inl 1, .inl 0, .inl 0, .inl 0]), .inr (0, [.inr 11, .inr 12, .inl 1, .inl 0]), .inl (0, 48, .inl 0), .inl (0, 4, .inl 0), .inr (4, [.inr 14, .inl 0]), .inl (0, 12, .inl 0), .inr (6, [.inr 16]), .inl (0, 192, .inl 0), .inr (6, [.inr 18]), .inl (0, 192, .inl 0), .inl (0, 3, .inl 0), .inr (1, [.inr 1, .inr 21, .inr 22, .inr 23, .inl 1]), .inl (0, 48, .inl 0), .inl (1, 48, .inl 1), .inl (1, 48, .inl 1), .inr (3, [.inl 0, .inl 0, .inr 1, .inr 6, .inr 35, .inr 25, .inr 28, .inr 30, .inr 32, .inr 34, .inl 1, .inl 1, .inl 0, .inl 0, .inl 0]), .inr (0, [.inr 26, .inr 27, .inl 1, .inl 0]), .inl (0, 48, .inl 0), .inl (0, 4, .inl 0), .inr (4, [.inr 29, .inl 0]), .inl (0, 12, .inl 0), .inr (6, [.inr 31]), .inl (0, 192, .inl 0), .inr (6, [.inr 33]), .inl (0, 192, .inl 0), .inl (0, 3, .inl 0), .inr (1, [.inr 1, .inr 36, .inr 37, .inr 38, .inl 1]), .inl (0, 48, .inl 0), .inl (1, 48, .inl 1), .inl (1, 48, .inl 1), .inr (3, [.inl 0, .inl 0, .inr 1, .inr 6, .inr 50, .inr 40, .inr 43, .inr 45, .inr 47, .inr 49, .inl 1, .inl 1, .inl 0, .inl 0, .inl 0]), .inr (0, [.inr 41, .inr 42, .inl 1, .inl 0]), .inl (0, 48, .inl 0), .inl (0, 4, .inl 0), .inr (4, [.inr 44, .inl 0]), .inl (0, 12, .inl 0), .inr (6, [.inr 46]), .inl (0, 192, .inl 0), .inr (6, [.inr 48]), .inl (0, 192, .inl 0), .inl (0, 3, .inl 0), .inr (1, [.inr 1, .inr 51, .inr 52, .inr 53, .inl 1]), .inl (0, 48, .inl 0), .inl (1, 48, .inl 1), .inl (1, 48, .inl 1)].getD k (.inr (0, []))
def sh_W4 : Nat → mw_H := fun k => [.inr (7, [.inl 0, .inl 2, .inl 2, .inl 2, .inl 0, .inl 0, .inl 0]), .inr (5, [.inr 2, .inr 3, .inr 4, .inr 5, .inl 0]), .inl (0, 73, .inl 0), .inl (0, 73, .inl 0), .inl (1, 73, .inl 1), .inl (0, 73, .inl 0), .inr (2, [.inl 0, .inr 7, .inl 0]), .inl (0, 2240, .inl 0), .inl (3, 4, .inr [9, 24, 39, 54]), .inr (3, [.inl 0, .inl 0, .inr 1, .inr 6, .inr 20, .inr 10, .inr 13, .inr 15, .inr 17, .inr 19, .inl 1, .inl 1, .inl 0, .inl 0, .inl 0]), .inr (0, [.inr 11, .inr 12, .inl 1, .inl 0]), .inl (0, 48, .inl 0), .inl (0, 4, .inl 0), .inr (4, [.inr 14, .inl 0]), .inl (0, 12, .inl 0), .inr (6, [.inr 16]), .inl (0, 192, .inl 0), .inr (6, [.inr 18]), .inl (0, 192, .inl 0), .inl (0, 3, .inl 0), .inr (1, [.inr 1, .inr 21, .inr 22, .inr 23, .inl 1]), .inl (0, 48, .inl 0), .inl (1, 48, .inl 1), .inl (1, 48, .inl 1), .inr (3, [.inl 0, .inl 0, .inr 1, .inr 6, .inr 35, .inr 25, .inr 28, .inr 30, .inr 32, .inr 34, .inl 1, .inl 1, .inl 0, .inl 0, .inl 0]), .inr (0, [.inr 26, .inr 27, .inl 1, .inl 0]), .inl (0, 48, .inl 0), .inl (0, 4, .inl 0), .inr (4, [.inr 29, .inl 0]), .inl (0, 12, .inl 0), .inr (6, [.inr 31]), .inl (0, 192, .inl 0), .inr (6, [.inr 33]), .inl (0, 192, .inl 0), .inl (0, 3, .inl 0), .inr (1, [.inr 1, .inr 36, .inr 37, .inr 38, .inl 1]), .inl (0, 48, .inl 0), .inl (1, 48, .inl 1), .inl (1, 48, .inl 1), .inr (3, [.inl 0, .inl 0, .inr 1, .inr 6, .inr 50, .inr 40, .inr 43, .inr 45, .inr 47, .inr 49, .inl 1, .inl 1, .inl 0, .inl 0, .inl 0]), .inr (0, [.inr 41, .inr 42, .inl 1, .inl 0]), .inl (0, 48, .inl 0), .inl (0, 4, .inl 0), .inr (4, [.inr 44, .inl 0]), .inl (0, 12, .inl 0), .inr (6, [.inr 46]), .inl (0, 192, .inl 0), .inr (6, [.inr 48]), .inl (0, 192, .inl 0), .inl (0, 3, .inl 0), .inr (1, [.inr 1, .inr 51, .inr 52, .inr 53, .inl 1]), .inl (0, 48, .inl 0), .inl (1, 48, .inl 1), .inl (1, 48, .inl 1), .inr (3, [.inl 0, .inl 0, .inr 1, .inr 6, .inr 65, .inr 55, .inr 58, .inr 60, .inr 62, .inr 64, .inl 1, .inl 1, .inl 0, .inl 0, .inl 0]), .inr (0, [.inr 56, .inr 57, .inl 1, .inl 0]), .inl (0, 48, .inl 0), .inl (0, 4, .inl 0), .inr (4, [.inr 59, .inl 0]), .inl (0, 12, .inl 0), .inr (6, [.inr 61]), .inl (0, 192, .inl 0), .inr (6, [.inr 63]), .inl (0, 192, .inl 0), .inl (0, 3, .inl 0), .inr (1, [.inr 1, .inr 66, .inr 67, .inr 68, .inl 1]), .inl (0, 48, .inl 0), .inl (1, 48, .inl 1), .inl (1, 48, .inl 1)].getD k (.inr (0, []))
def sh_W4b : Nat → mw_H := fun k => [.inr (7, [.inl 0, .inl 2, .inl 2, .inl 2, .inl 0, .inl 0, .inl 0]), .inr (5, [.inr 2, .inr 3, .inr 4, .inr 5, .inl 0]), .inl (0, 73, .inl 0), .inl (0, 73, .inl 0), .inl (1, 73, .inl 1), .inl (0, 73, .inl 0), .inr (2, [.inl 0, .inr 7, .inl 0]), .inl (0, 2240, .inl 0), .inl (3, 4, .inr [9, 24, 39]), .inr (3, [.inl 0, .inl 0, .inr 1, .inr 6, .inr 20, .inr 10, .inr 13, .inr 15, .inr 17, .inr 19, .inl 1, .inl 1, .inl 0, .inl 0, .inl 0]), .inr (0, [.inr 11, .inr 12, .inl 1, .inl 0]), .inl (0, 48, .inl 0), .inl (0, 4, .inl 0), .inr (4, [.inr 14, .inl 0]), .inl (0, 12, .inl 0), .inr (6, [.inr 16]), .inl (0, 192, .inl 0), .inr (6, [.inr 18]), .inl (0, 192, .inl 0), .inl (0, 3, .inl 0), .inr (1, [.inr 1, .inr 21, .inr 22, .inr 23, .inl 1]), .inl (0, 48, .inl 0), .inl (1, 48, .inl 1), .inl (1, 48, .inl 1), .inr (3, [.inl 0, .inl 0, .inr 1, .inr 6, .inr 35, .inr 25, .inr 28, .inr 30, .inr 32, .inr 34, .inl 1, .inl 1, .inl 0, .inl 0, .inl 0]), .inr (0, [.inr 26, .inr 27, .inl 1, .inl 0]), .inl (0, 48, .inl 0), .inl (0, 4, .inl 0), .inr (4, [.inr 29, .inl 0]), .inl (0, 12, .inl 0), .inr (6, [.inr 31]), .inl (0, 192, .inl 0), .inr (6, [.inr 33]), .inl (0, 192, .inl 0), .inl (0, 3, .inl 0), .inr (1, [.inr 1, .inr 36, .inr 37, .inr 38, .inl 1]), .inl (0, 48, .inl 0), .inl (1, 48, .inl 1), .inl (1, 48, .inl 1), .inr (3, [.inl 0, .inl 0, .inr 1, .inr 6, .inr 50, .inr 40, .inr 43, .inr 45, .inr 47, .inr 49, .inl 1, .inl 1, .inl 0, .inl 0, .inl 0]), .inr (0, [.inr 41, .inr 42, .inl 1, .inl 0]), .inl (0, 48, .inl 0), .inl (0, 4, .inl 0), .inr (4, [.inr 44, .inl 0]), .inl (0, 12, .inl 0), .inr (6, [.inr 46]), .inl (0, 192, .inl 0), .inr (6, [.inr 48]), .inl (0, 192, .inl 0), .inl (0, 3, .inl 0), .inr (1, [.inr 1, .inr 51, .inr 52, .inr 53, .inl 1]), .inl (0, 48, .inl 0), .inl (1, 48, .inl 1), .inl (1, 48, .inl 1), .inr (3, [.inl 0, .inl 0, .inr 1, .inr 6, .inr 65, .inr 55, .inr 58, .inr 60, .inr 62, .inr 64, .inl 1, .inl 1, .inl 0, .inl 0, .inl 0]), .inr (0, [.inr 56, .inr 57, .inl 1, .inl 0]), .inl (0, 48, .inl 0), .inl (0, 4, .inl 0), .inr (4, [.inr 59, .inl 0]), .inl (0, 12, .inl 0), .inr (6, [.inr 61]), .inl (0, 192, .inl 0), .inr (6, [.inr 63]), .inl (0, 192, .inl 0), .inl (0, 3, .inl 0), .inr (1, [.inr 1, .inr 66, .inr 67, .inr 68, .inl 1]), .inl (0, 48, .inl 0), .inl (1, 48, .inl 1), .inl (1, 48, .inl 1)].getD k (.inr (0, []))
def sh_Wf : Nat → mw_H := fun k => [.inr (7, [.inl 0, .inr 1, .inr 6, .inr 8, .inl 0, .inl 0, .inl 0]), .inr (5, [.inr 2, .inr 3, .inr 4, .inr 5, .inl 0]), .inl (0, 73, .inl 0), .inl (0, 73, .inl 0), .inl (1, 73, .inl 1), .inl (0, 73, .inl 0), .inr (2, [.inl 0, .inr 7, .inl 0]), .inl (0, 2240, .inl 0), .inl (3, 4, .inr [9, 24, 39, 54]), .inr (3, [.inl 0, .inl 0, .inr 1, .inr 6, .inr 20, .inr 10, .inr 13, .inr 15, .inr 17, .inr 19, .inl 1, .inl 1, .inl 0, .inl 0, .inl 0]), .inr (0, [.inr 11, .inr 12, .inl 1, .inl 0]), .inl (0, 48, .inl 0), .inl (0, 4, .inl 0), .inr (4, [.inr 14, .inl 0]), .inl (0, 12, .inl 0), .inr (6, [.inr 16]), .inl (0, 192, .inl 0), .inr (6, [.inr 18]), .inl (0, 192, .inl 0), .inl (0, 3, .inl 0), .inr (1, [.inr 1, .inr 21, .inr 22, .inr 23, .inl 1]), .inl (0, 48, .inl 0), .inl (1, 48, .inl 1), .inl (1, 48, .inl 1), .inr (3, [.inl 0, .inl 0, .inr 1, .inr 6, .inr 35, .inr 25, .inr 28, .inr 30, .inr 32, .inr 34, .inl 1, .inl 1, .inl 0, .inl 0, .inl 0]), .inr (0, [.inr 26, .inr 27, .inl 1, .inl 0]), .inl (0, 48, .inl 0), .inl (0, 4, .inl 0), .inr (4, [.inr 29, .inl 0]), .inl (0, 12, .inl 0), .inr (6, [.inr 31]), .inl (0, 192, .inl 0), .inr (6, [.inr 33]), .inl (0, 192, .inl 0), .inl (0, 3, .inl 0), .inr (1, [.inr 1, .inr 36, .inr 37, .inr 38, .inl 1]), .inl (0, 48, .inl 0), .inl (1, 48, .inl 1), .inl (1, 48, .inl 1), .inr (3, [.inl 0, .inl 0, .inr 1, .inr 6, .inr 50, .inr 40, .inr 43, .inr 45, .inr 47, .inr 49, .inl 1, .inl 1, .inl 0, .inl 0, .inl 0]), .inr (0, [.inr 41, .inr 42, .inl 1, .inl 0]), .inl (0, 48, .inl 0), .inl (0, 4, .inl 0), .inr (4, [.inr 44, .inl 0]), .inl (0, 12, .inl 0), .inr (6, [.inr 46]), .inl (0, 192, .inl 0), .inr (6, [.inr 48]), .inl (0, 192, .inl 0), .inl (0, 3, .inl 0), .inr (1, [.inr 1, .inr 51, .inr 52, .inr 53, .inl 1]), .inl (0, 48, .inl 0), .inl (1, 48, .inl 1), .inl (1, 48, .inl 1), .inr (3, [.inl 0, .inl 0, .inr 1, .inr 6, .inr 65, .inr 55, .inr 58, .inr 60, .inr 62, .inr 64, .inl 1, .inl 1, .inl 0, .inl 0, .inl 0]), .inr (0, [.inr 56, .inr 57, .inl 1, .inl 0]), .inl (0, 48, .inl 0), .inl (0, 4, .inl 0), .inr (4, [.inr 59, .inl 0]), .inl (0, 12, .inl 0), .inr (6, [.inr 61]), .inl (0, 192, .inl 0), .inr (6, [.inr 63]), .inl (0, 192, .inl 0), .inl (0, 3, .inl 0), .inr (1, [.inr 1, .inr 66, .inr 67, .inr 68, .inl 1]), .inl (0, 48, .inl 0), .inl (1, 48, .inl 1), .inl (1, 48, .inl 1)].getD k (.inr (0, []))
abbrev ixW : List Nat := [0, 8, 1, 2, 3, 4, 5, 6, 7, 9, 20, 21, 22, 23, 10, 11, 12, 13, 14, 15, 16, 17, 18, 19, 24, 35, 36, 37, 38, 25, 26, 27, 28, 29, 30, 31, 32, 33, 34, 39, 50, 51, 52, 53, 40, 41, 42, 43, 44, 45, 46, 47, 48, 49, 54, 65, 66, 67, 68, 55, 56, 57, 58, 59, 60, 61, 62, 63, 64]
theorem ix_Wl_Wf : mw_ix sh_Wl 69 sh_Wf 69 ixW := mw_ix_of (by decide +kernel)
theorem a_setF_0 (σ : aS) {f node : Nat} (h : ∀ q, σ.1 f (48 * node + q) = 0) : ∀ n, a_setF σ f node n = 0
  | 0 => rfl
  | n + 1 => by
    rw [a_setF, if_pos (h n)]
    exact a_setF_0 σ h n
/-- the vertices' and the mail's cells at first -/
def vZ (fy : Nat) (T : mw_S) : Prop := T.1 15 4 = 0 ∧ T.1 16 = fz ∧ T.1 17 = fz ∧ T.2 18 = gz ∧ T.1 19 = fz ∧ T.1 20 0 = slv fy ∧ T.1 20 2 = 0
theorem nZ_nR {i fy : Nat} {cn seed : Int32} {T : mw_S} (hi : i < 4) (h : nZ (nI i) cn T) (v : vZ fy T) : nR cn fy i (a_0 seed) T := by
  obtain ⟨h1, h2, h3, h4, h5, h6, h7, h8, h9, h10, h11, h12, h13, h14, h15, h16, h17, h18, h19⟩ := h
  obtain ⟨v1, v2, v3, v4, v5, v6, v7⟩ := v
  have z := fun f (hf : f ≠ 18) j => a_0_0 seed hf j
  have rw0 : ∀ so q, a_row (a_0 seed) i so q = 0 := fun so q => if_pos (z 9 (by decide) _)
  refine nR_mk h1 h2 (by rw [h3, a_setF_0 _ (fun q => z 6 (by decide) _)]) (by rw [h4, a_setF_0 _ (fun q => z 7 (by decide) _)]) (by rw [h5, z 14 (by decide)]; rfl) (by rw [h6, z 16 (by decide)]; rfl) (by rw [h7, z 15 (by decide)]; rfl) (by rw [h8, a_setF_0 _ (fun q => z 9 (by decide) _)]) (fun q _ => by rw [h9, z 8 (by decide)]; rfl) (fun q _ => by rw [h10, rw0]) (fun q _ => by rw [h11, rw0]) (by rw [h12, a_setF_0 _ (fun q => z 10 (by decide) _)]) (by rw [h13, z 17 (by decide)]; rfl) (fun k hk => by rw [z 17 (by decide)] at hk; exact absurd hk (Nat.not_lt_zero _)) (fun j hj => ?_) (by rw [h16, z 20 (by decide)]; rfl) (fun k hk => by rw [z 20 (by decide)] at hk; exact absurd hk (Nat.not_lt_zero _)) (fun j _ => by rw [h18, z 12 (by decide)]; rfl) (fun j _ => by rw [h19, z 13 (by decide)]; rfl) (by rw [v1, z 0 (by decide)]; rfl) (fun j _ => by rw [v2, z 1 (by decide)]; rfl) (fun j _ => by rw [v3, z 2 (by decide)]; rfl) (fun j _ => by rw [v4]; rfl) (fun j _ => by rw [v5, z 4 (by decide)]; rfl) v6 (by rw [v7, z 0 (by decide)]; rfl) (fun k hk => by rw [z 0 (by decide)] at hk; exact absurd hk (Nat.not_lt_zero _))
  rw [h15 j hj, show (a_0 seed).1 18 (4 * i + j) = 100 from if_pos ⟨rfl, by omega⟩]
theorem nZ_cells {i cn : Int32} {T T' : mw_S} (h : nZ i cn T) (c : ∀ k, k < 15 → T'.1 k = T.1 k ∧ T'.2 k = T.2 k) : nZ i cn T' := by
  obtain ⟨h1, h2, h3, h4, h5, h6, h7, h8, h9, h10, h11, h12, h13, h14, h15, h16, h17, h18, h19⟩ := h
  exact ⟨by rw [(c 0 (by decide)).1]; exact h1, by rw [(c 0 (by decide)).1]; exact h2, by rw [(c 0 (by decide)).2]; exact h3, by rw [(c 0 (by decide)).2]; exact h4, by rw [(c 0 (by decide)).1]; exact h5, by rw [(c 0 (by decide)).1]; exact h6, by rw [(c 0 (by decide)).1]; exact h7, by rw [(c 1 (by decide)).2]; exact h8, by rw [(c 2 (by decide)).1]; exact h9, by rw [(c 3 (by decide)).2]; exact h10, by rw [(c 4 (by decide)).2]; exact h11, by rw [(c 5 (by decide)).2]; exact h12, by rw [(c 5 (by decide)).1]; exact h13, by rw [(c 6 (by decide)).1]; exact h14, by rw [(c 7 (by decide)).1]; exact h15, by rw [(c 8 (by decide)).1]; exact h16, by rw [(c 9 (by decide)).1]; exact h17, by rw [(c 11 (by decide)).1]; exact h18, by rw [(c 13 (by decide)).1]; exact h19⟩
set_option maxHeartbeats 4000000 in
set_option maxRecDepth 100000 in
theorem m_Wl_init (l : Launch) (D : va_G) (cA : Nat → ClassId) (seed cn fv : Int32) (fy : Nat) (S : mw_S) (hfy : fyR fv fy) (hz : S.1 0 = fz) : mw_MI l lw_tbl (fun U => va_AO "WaveLedger$Node" U) y_Wl_init b_Wl_init 9 { frames := 3, cells := 68, slots := 5036, locals := 65 } D vCl cA sh_Wl0 1 [.inr (.inr 0), .inl seed, .inl cn, .inl fv] (S) sh_Wf 69 68 5036 (fun S' => cR cn fy (a_0 seed) (mw_rs S' ixW)) := by
  refine mw_MI_of (by decide) rfl (Nat.le_of_ble_eq_true rfl) ?_
  intro p e s m args below meth c A ad0 C hR hI hx
  have tail : mw p l e { frames := 3, cells := 68, slots := 5036, locals := 65 } s m args below meth c (MQ below (mw_QI D vCl cA ad0 sh_Wl0 1 s.heap.size S sh_Wf 69 (fun S' => cR cn fy (a_0 seed) (mw_rs S' ixW))) args s 68 5036 A) 0 0 D vCl cA A ad0 sh_Wl0 1 9 16 ([(0, .inr (.inr 0)), (1, .inl seed), (2, .inl cn), (3, .inl fv)]) ([.inl (slv fy)]) (S) := by
    refine mw_istore C d_Wl_init_16 (by decide) ?_
    refine mw_new C (ci := 5) [.inl 2, .inl 2, .inl 2, .inl 2, .inl 0] rfl t_Ve_ok wu_Ve wk_Wl_13 wz_Ve wi_Ve (by decide +kernel) rfl d_Wl_init_18 (by decide +kernel) rfl rfl (by decide) (by decide) (fun ad hy C => ?_)
    have hx := mw_hx hx hy (by decide)
    refine mw_dup C d_Wl_init_21 rfl ?_
    refine mw_runI C (kk := 0) (ix := [1]) (fun k => [.inr (7, [.inl 0, .inl 2, .inl 2, .inl 2, .inl 0, .inl 0, .inl 0]), .inr (5, [.inr 2, .inr 3, .inr 4, .inr 5, .inl 0]), .inl (0, 73, .inl 0), .inl (0, 73, .inl 0), .inl (1, 73, .inl 1), .inl (0, 73, .inl 0)].getD k (.inr (0, []))) 6 [1, 2, 3, 4, 5] (m_Ve_init l D cA _ rfl) (mw_ix_of (by decide +kernel)) (mw_ix_of (by decide +kernel)) (by decide +kernel) kb_Wl_15 wm_Ve_init rfl (fun _ _ _ _ h => h) (fun _ _ _ _ _ _ => trivial) d_Wl_init_22 rfl rfl (Nat.le_of_ble_eq_true rfl) rfl rfl ⟨by decide, by decide⟩ ⟨by decide, by decide⟩ rfl rfl (fun ad hy C S22 e22 => ?_)
    have hx := mw_hx hx hy (by decide)
    refine mw_astore C d_Wl_init_25 (by decide) ?_
    refine mw_new C (ci := 2) [.inl 0, .inl 2, .inl 0] rfl t_Ma_ok wu_Ma wk_Wl_16 wz_Ma wi_Ma (by decide +kernel) rfl d_Wl_init_27 (by decide +kernel) rfl rfl (by decide) (by decide) (fun ad hy C => ?_)
    have hx := mw_hx hx hy (by decide)
    refine mw_dup C d_Wl_init_30 rfl ?_
    refine mw_iload C d_Wl_init_31 rfl ?_
    refine mw_runI C (kk := 0) (ix := [6]) (fun k => [.inr (7, [.inl 0, .inl 2, .inl 2, .inl 2, .inl 0, .inl 0, .inl 0]), .inr (5, [.inr 2, .inr 3, .inr 4, .inr 5, .inl 0]), .inl (0, 73, .inl 0), .inl (0, 73, .inl 0), .inl (1, 73, .inl 1), .inl (0, 73, .inl 0), .inr (2, [.inl 0, .inr 7, .inl 0]), .inl (0, 2240, .inl 0)].getD k (.inr (0, []))) 8 [6, 7] (m_Ma_init l D cA (slv fy) _ rfl) (mw_ix_of (by decide +kernel)) (mw_ix_of (by decide +kernel)) (by decide +kernel) kb_Wl_18 wm_Ma_init rfl (fun _ _ _ _ h => h) (fun _ _ _ _ _ _ => trivial) d_Wl_init_33 rfl rfl (Nat.le_of_ble_eq_true rfl) rfl rfl ⟨by decide, by decide⟩ ⟨by decide, by decide⟩ rfl rfl (fun ad hy C S33 e33 => ?_)
    have hx := mw_hx hx hy (by decide)
    refine mw_astore C d_Wl_init_36 (by decide) ?_
    refine mw_iconst C (v := nI 4) d_Wl_init_38 (by decide) ?_
    refine mw_newaR C wk_Wl_21 hI.2 (by decide) (by decide) d_Wl_init_39 (by decide +kernel) rfl rfl (by decide) (by decide) (fun ad hy C => ?_)
    have hx := mw_hx hx hy (by decide)
    refine mw_astore C d_Wl_init_42 (by decide) ?_
    refine mw_iconst C (v := nI 0) d_Wl_init_44 (by decide) ?_
    refine mw_istore C d_Wl_init_45 (by decide) ?_
    refine mw_shEq (sh' := sh_W0) (by decide +kernel) ?_
    refine mw_to [(0, .inr (.inr 0)), (1, .inl seed), (2, .inl cn), (4, .inl (slv fy)), (5, .inr (.inr 1)), (6, .inr (.inr 6)), (7, .inr (.inr 8)), (8, .inl (nI 0))] (by exact And.intro rfl (And.intro rfl (And.intro rfl (And.intro rfl (And.intro rfl (And.intro rfl (And.intro rfl (And.intro rfl (trivial))))))))) ?_
    refine mw_iload C d_Wl_init_47 rfl ?_
    refine mw_iconst C (v := nI 4) d_Wl_init_49 (by decide) ?_
    refine mw_icmp_geN C 78 d_Wl_init_50 (by decide) (by omega) (by omega) (fun h50 => absurd h50 (by decide)) (fun h50 => ?_)
    refine mw_aload C d_Wl_init_53 rfl ?_
    refine mw_iload C d_Wl_init_55 rfl ?_
    refine mw_new C (ci := 3) [.inl 0, .inl 0, .inl 2, .inl 2, .inl 2, .inl 2, .inl 2, .inl 2, .inl 2, .inl 2, .inl 1, .inl 1, .inl 0, .inl 0, .inl 0] rfl t_No_ok wu_No wk_Wl_21 wz_No wi_No (by decide +kernel) rfl d_Wl_init_57 (by decide +kernel) rfl rfl (by decide) (by decide) (fun ad hy C => ?_)
    have hx := mw_hx hx hy (by decide)
    refine mw_dup C d_Wl_init_60 rfl ?_
    refine mw_iload C d_Wl_init_61 rfl ?_
    refine mw_iload_n C 2 d_Wl_init_63 rfl rfl ?_
    refine mw_aload C d_Wl_init_64 rfl ?_
    refine mw_aload C d_Wl_init_66 rfl ?_
    refine mw_runI C (kk := 0) (ix := [9, 1, 2, 3, 4, 5, 6, 7]) (sh_W1b) 24 [9, 1, 2, 3, 4, 5, 6, 7, 10, 11, 12, 13, 14, 15, 16, 17, 18, 19, 20, 21, 22, 23] (m_No_init l D cA (nI 0) cn _ rfl rfl) (mw_ix_of (by decide +kernel)) (mw_ix_of (by decide +kernel)) (by decide +kernel) kb_Wl_23 wm_No_init rfl (fun _ _ _ _ h => h) (fun _ _ _ _ _ _ => trivial) d_Wl_init_68 rfl rfl (Nat.le_of_ble_eq_true rfl) rfl rfl ⟨by decide, by decide⟩ ⟨by decide, by decide⟩ rfl rfl (fun ad hy C S68_0 e68_0 => ?_)
    have hx := mw_hx hx hy (by decide)
    refine mw_aast C d_Wl_init_71 (by decide) rfl (by decide) rfl rfl (by decide) (by decide) rfl ?_
    refine mw_shEq (sh' := sh_W1) (by decide +kernel) ?_
    refine mw_iincN C d_Wl_init_72 rfl (by decide) ?_
    refine mw_goto C 47 d_Wl_init_75 (by decide) ?_
    refine mw_to [(0, .inr (.inr 0)), (1, .inl seed), (2, .inl cn), (4, .inl (slv fy)), (5, .inr (.inr 1)), (6, .inr (.inr 6)), (7, .inr (.inr 8)), (8, .inl (nI 1))] (by exact And.intro rfl (And.intro rfl (And.intro rfl (And.intro rfl (And.intro rfl (And.intro rfl (And.intro rfl (And.intro rfl (trivial))))))))) ?_
    refine mw_iload C d_Wl_init_47 rfl ?_
    refine mw_iconst C (v := nI 4) d_Wl_init_49 (by decide) ?_
    refine mw_icmp_geN C 78 d_Wl_init_50 (by decide) (by omega) (by omega) (fun h50 => absurd h50 (by decide)) (fun h50 => ?_)
    refine mw_aload C d_Wl_init_53 rfl ?_
    refine mw_iload C d_Wl_init_55 rfl ?_
    refine mw_new C (ci := 3) [.inl 0, .inl 0, .inl 2, .inl 2, .inl 2, .inl 2, .inl 2, .inl 2, .inl 2, .inl 2, .inl 1, .inl 1, .inl 0, .inl 0, .inl 0] rfl t_No_ok wu_No wk_Wl_21 wz_No wi_No (by decide +kernel) rfl d_Wl_init_57 (by decide +kernel) rfl rfl (by decide) (by decide) (fun ad hy C => ?_)
    have hx := mw_hx hx hy (by decide)
    refine mw_dup C d_Wl_init_60 rfl ?_
    refine mw_iload C d_Wl_init_61 rfl ?_
    refine mw_iload_n C 2 d_Wl_init_63 rfl rfl ?_
    refine mw_aload C d_Wl_init_64 rfl ?_
    refine mw_aload C d_Wl_init_66 rfl ?_
    refine mw_runI C (kk := 0) (ix := [24, 1, 2, 3, 4, 5, 6, 7]) (sh_W2b) 39 [24, 1, 2, 3, 4, 5, 6, 7, 25, 26, 27, 28, 29, 30, 31, 32, 33, 34, 35, 36, 37, 38] (m_No_init l D cA (nI 1) cn _ rfl rfl) (mw_ix_of (by decide +kernel)) (mw_ix_of (by decide +kernel)) (by decide +kernel) kb_Wl_23 wm_No_init rfl (fun _ _ _ _ h => h) (fun _ _ _ _ _ _ => trivial) d_Wl_init_68 rfl rfl (Nat.le_of_ble_eq_true rfl) rfl rfl ⟨by decide, by decide⟩ ⟨by decide, by decide⟩ rfl rfl (fun ad hy C S68_1 e68_1 => ?_)
    have hx := mw_hx hx hy (by decide)
    refine mw_aast C d_Wl_init_71 (by decide) rfl (by decide) rfl rfl (by decide) (by decide) rfl ?_
    refine mw_shEq (sh' := sh_W2) (by decide +kernel) ?_
    refine mw_iincN C d_Wl_init_72 rfl (by decide) ?_
    refine mw_goto C 47 d_Wl_init_75 (by decide) ?_
    refine mw_to [(0, .inr (.inr 0)), (1, .inl seed), (2, .inl cn), (4, .inl (slv fy)), (5, .inr (.inr 1)), (6, .inr (.inr 6)), (7, .inr (.inr 8)), (8, .inl (nI 2))] (by exact And.intro rfl (And.intro rfl (And.intro rfl (And.intro rfl (And.intro rfl (And.intro rfl (And.intro rfl (And.intro rfl (trivial))))))))) ?_
    refine mw_iload C d_Wl_init_47 rfl ?_
    refine mw_iconst C (v := nI 4) d_Wl_init_49 (by decide) ?_
    refine mw_icmp_geN C 78 d_Wl_init_50 (by decide) (by omega) (by omega) (fun h50 => absurd h50 (by decide)) (fun h50 => ?_)
    refine mw_aload C d_Wl_init_53 rfl ?_
    refine mw_iload C d_Wl_init_55 rfl ?_
    refine mw_new C (ci := 3) [.inl 0, .inl 0, .inl 2, .inl 2, .inl 2, .inl 2, .inl 2, .inl 2, .inl 2, .inl 2, .inl 1, .inl 1, .inl 0, .inl 0, .inl 0] rfl t_No_ok wu_No wk_Wl_21 wz_No wi_No (by decide +kernel) rfl d_Wl_init_57 (by decide +kernel) rfl rfl (by decide) (by decide) (fun ad hy C => ?_)
    have hx := mw_hx hx hy (by decide)
    refine mw_dup C d_Wl_init_60 rfl ?_
    refine mw_iload C d_Wl_init_61 rfl ?_
    refine mw_iload_n C 2 d_Wl_init_63 rfl rfl ?_
    refine mw_aload C d_Wl_init_64 rfl ?_
    refine mw_aload C d_Wl_init_66 rfl ?_
    refine mw_runI C (kk := 0) (ix := [39, 1, 2, 3, 4, 5, 6, 7]) (sh_W3b) 54 [39, 1, 2, 3, 4, 5, 6, 7, 40, 41, 42, 43, 44, 45, 46, 47, 48, 49, 50, 51, 52, 53] (m_No_init l D cA (nI 2) cn _ rfl rfl) (mw_ix_of (by decide +kernel)) (mw_ix_of (by decide +kernel)) (by decide +kernel) kb_Wl_23 wm_No_init rfl (fun _ _ _ _ h => h) (fun _ _ _ _ _ _ => trivial) d_Wl_init_68 rfl rfl (Nat.le_of_ble_eq_true rfl) rfl rfl ⟨by decide, by decide⟩ ⟨by decide, by decide⟩ rfl rfl (fun ad hy C S68_2 e68_2 => ?_)
    have hx := mw_hx hx hy (by decide)
    refine mw_aast C d_Wl_init_71 (by decide) rfl (by decide) rfl rfl (by decide) (by decide) rfl ?_
    refine mw_shEq (sh' := sh_W3) (by decide +kernel) ?_
    refine mw_iincN C d_Wl_init_72 rfl (by decide) ?_
    refine mw_goto C 47 d_Wl_init_75 (by decide) ?_
    refine mw_to [(0, .inr (.inr 0)), (1, .inl seed), (2, .inl cn), (4, .inl (slv fy)), (5, .inr (.inr 1)), (6, .inr (.inr 6)), (7, .inr (.inr 8)), (8, .inl (nI 3))] (by exact And.intro rfl (And.intro rfl (And.intro rfl (And.intro rfl (And.intro rfl (And.intro rfl (And.intro rfl (And.intro rfl (trivial))))))))) ?_
    refine mw_iload C d_Wl_init_47 rfl ?_
    refine mw_iconst C (v := nI 4) d_Wl_init_49 (by decide) ?_
    refine mw_icmp_geN C 78 d_Wl_init_50 (by decide) (by omega) (by omega) (fun h50 => absurd h50 (by decide)) (fun h50 => ?_)
    refine mw_aload C d_Wl_init_53 rfl ?_
    refine mw_iload C d_Wl_init_55 rfl ?_
    refine mw_new C (ci := 3) [.inl 0, .inl 0, .inl 2, .inl 2, .inl 2, .inl 2, .inl 2, .inl 2, .inl 2, .inl 2, .inl 1, .inl 1, .inl 0, .inl 0, .inl 0] rfl t_No_ok wu_No wk_Wl_21 wz_No wi_No (by decide +kernel) rfl d_Wl_init_57 (by decide +kernel) rfl rfl (by decide) (by decide) (fun ad hy C => ?_)
    have hx := mw_hx hx hy (by decide)
    refine mw_dup C d_Wl_init_60 rfl ?_
    refine mw_iload C d_Wl_init_61 rfl ?_
    refine mw_iload_n C 2 d_Wl_init_63 rfl rfl ?_
    refine mw_aload C d_Wl_init_64 rfl ?_
    refine mw_aload C d_Wl_init_66 rfl ?_
    refine mw_runI C (kk := 0) (ix := [54, 1, 2, 3, 4, 5, 6, 7]) (sh_W4b) 69 [54, 1, 2, 3, 4, 5, 6, 7, 55, 56, 57, 58, 59, 60, 61, 62, 63, 64, 65, 66, 67, 68] (m_No_init l D cA (nI 3) cn _ rfl rfl) (mw_ix_of (by decide +kernel)) (mw_ix_of (by decide +kernel)) (by decide +kernel) kb_Wl_23 wm_No_init rfl (fun _ _ _ _ h => h) (fun _ _ _ _ _ _ => trivial) d_Wl_init_68 rfl rfl (Nat.le_of_ble_eq_true rfl) rfl rfl ⟨by decide, by decide⟩ ⟨by decide, by decide⟩ rfl rfl (fun ad hy C S68_3 e68_3 => ?_)
    have hx := mw_hx hx hy (by decide)
    refine mw_aast C d_Wl_init_71 (by decide) rfl (by decide) rfl rfl (by decide) (by decide) rfl ?_
    refine mw_shEq (sh' := sh_W4) (by decide +kernel) ?_
    refine mw_iincN C d_Wl_init_72 rfl (by decide) ?_
    refine mw_goto C 47 d_Wl_init_75 (by decide) ?_
    refine mw_to [(0, .inr (.inr 0)), (1, .inl seed), (2, .inl cn), (4, .inl (slv fy)), (5, .inr (.inr 1)), (6, .inr (.inr 6)), (7, .inr (.inr 8)), (8, .inl (nI 4))] (by exact And.intro rfl (And.intro rfl (And.intro rfl (And.intro rfl (And.intro rfl (And.intro rfl (And.intro rfl (And.intro rfl (trivial))))))))) ?_
    refine mw_iload C d_Wl_init_47 rfl ?_
    refine mw_iconst C (v := nI 4) d_Wl_init_49 (by decide) ?_
    refine mw_icmp_geN C 78 d_Wl_init_50 (by decide) (by omega) (by omega) (fun h50 => ?_) (fun h50 => absurd h50 (by decide))
    refine mw_aload_n C 0 d_Wl_init_78 rfl rfl ?_
    refine mw_iload C d_Wl_init_79 rfl ?_
    refine mw_putIi C fo_Wl_26 hI.1 d_Wl_init_81 (by decide) rfl rfl ?_
    refine mw_aload_n C 0 d_Wl_init_84 rfl rfl ?_
    refine mw_aload C d_Wl_init_85 rfl ?_
    refine mw_putIr C fo_Wl_30 hI.1 (fun _ => ⟨rfl, rfl⟩) d_Wl_init_87 (by decide) rfl (by decide) ?_
    refine mw_aload_n C 0 d_Wl_init_90 rfl rfl ?_
    refine mw_aload C d_Wl_init_91 rfl ?_
    refine mw_putIr C fo_Wl_34 hI.1 (fun _ => ⟨rfl, rfl⟩) d_Wl_init_93 (by decide) rfl (by decide) ?_
    refine mw_aload_n C 0 d_Wl_init_96 rfl rfl ?_
    refine mw_aload C d_Wl_init_97 rfl ?_
    refine mw_putIr C fo_Wl_38 hI.1 (fun _ => ⟨rfl, rfl⟩) d_Wl_init_99 (by decide) rfl (by decide) ?_
    refine mw_aload_n C 0 d_Wl_init_102 rfl rfl ?_
    refine mw_iload_n C 1 d_Wl_init_103 rfl rfl ?_
    refine mw_putIi C fo_Wl_42 hI.1 d_Wl_init_104 (by decide) rfl rfl ?_
    refine mw_shEq (sh' := sh_Wf) (by decide +kernel) ?_
    refine mw_vretI C hR hx (by decide) d_Wl_init_107 (by decide) (by decide) ?_
    have z5 : S.1 0 5 = nI ((a_0 seed).1 0 10) := by rw [a_0_0 seed (by decide), hz]; rfl
    have z6 : S.1 0 6 = nI ((a_0 seed).1 0 4) := by rw [a_0_0 seed (by decide), hz]; rfl
    refine ⟨rfl, rfl, z5, z6, ?_, ?_, ?_, ?_⟩
    · exact (nZ_nR (by decide) (nZ_cells e68_0.1 (fun k hk => by
        have h15 : k = 0 ∨ k = 1 ∨ k = 2 ∨ k = 3 ∨ k = 4 ∨ k = 5 ∨ k = 6 ∨ k = 7 ∨ k = 8 ∨ k = 9 ∨ k = 10 ∨ k = 11 ∨ k = 12 ∨ k = 13 ∨ k = 14 := by omega
        rcases h15 with rfl | rfl | rfl | rfl | rfl | rfl | rfl | rfl | rfl | rfl | rfl | rfl | rfl | rfl | rfl <;> exact ⟨rfl, rfl⟩)) ⟨(congrFun ((e68_3.2 1 (by decide) (by decide)).1.trans ((e68_2.2 1 (by decide) (by decide)).1.trans ((e68_1.2 1 (by decide) (by decide)).1.trans (e68_0.2 1 (by decide) (by decide)).1))) 4).trans e22.1, ((e68_3.2 2 (by decide) (by decide)).1.trans ((e68_2.2 2 (by decide) (by decide)).1.trans ((e68_1.2 2 (by decide) (by decide)).1.trans (e68_0.2 2 (by decide) (by decide)).1))).trans e22.2.1, ((e68_3.2 3 (by decide) (by decide)).1.trans ((e68_2.2 3 (by decide) (by decide)).1.trans ((e68_1.2 3 (by decide) (by decide)).1.trans (e68_0.2 3 (by decide) (by decide)).1))).trans e22.2.2.1, ((e68_3.2 4 (by decide) (by decide)).2.trans ((e68_2.2 4 (by decide) (by decide)).2.trans ((e68_1.2 4 (by decide) (by decide)).2.trans (e68_0.2 4 (by decide) (by decide)).2))).trans e22.2.2.2.1, ((e68_3.2 5 (by decide) (by decide)).1.trans ((e68_2.2 5 (by decide) (by decide)).1.trans ((e68_1.2 5 (by decide) (by decide)).1.trans (e68_0.2 5 (by decide) (by decide)).1))).trans e22.2.2.2.2, (congrFun ((e68_3.2 6 (by decide) (by decide)).1.trans ((e68_2.2 6 (by decide) (by decide)).1.trans ((e68_1.2 6 (by decide) (by decide)).1.trans (e68_0.2 6 (by decide) (by decide)).1))) 0).trans e33.1, (congrFun ((e68_3.2 6 (by decide) (by decide)).1.trans ((e68_2.2 6 (by decide) (by decide)).1.trans ((e68_1.2 6 (by decide) (by decide)).1.trans (e68_0.2 6 (by decide) (by decide)).1))) 2).trans e33.2.1⟩)
    · exact (nZ_nR (by decide) (nZ_cells e68_1.1 (fun k hk => by
        have h15 : k = 0 ∨ k = 1 ∨ k = 2 ∨ k = 3 ∨ k = 4 ∨ k = 5 ∨ k = 6 ∨ k = 7 ∨ k = 8 ∨ k = 9 ∨ k = 10 ∨ k = 11 ∨ k = 12 ∨ k = 13 ∨ k = 14 := by omega
        rcases h15 with rfl | rfl | rfl | rfl | rfl | rfl | rfl | rfl | rfl | rfl | rfl | rfl | rfl | rfl | rfl <;> exact ⟨rfl, rfl⟩)) ⟨(congrFun ((e68_3.2 1 (by decide) (by decide)).1.trans ((e68_2.2 1 (by decide) (by decide)).1.trans ((e68_1.2 1 (by decide) (by decide)).1.trans (e68_0.2 1 (by decide) (by decide)).1))) 4).trans e22.1, ((e68_3.2 2 (by decide) (by decide)).1.trans ((e68_2.2 2 (by decide) (by decide)).1.trans ((e68_1.2 2 (by decide) (by decide)).1.trans (e68_0.2 2 (by decide) (by decide)).1))).trans e22.2.1, ((e68_3.2 3 (by decide) (by decide)).1.trans ((e68_2.2 3 (by decide) (by decide)).1.trans ((e68_1.2 3 (by decide) (by decide)).1.trans (e68_0.2 3 (by decide) (by decide)).1))).trans e22.2.2.1, ((e68_3.2 4 (by decide) (by decide)).2.trans ((e68_2.2 4 (by decide) (by decide)).2.trans ((e68_1.2 4 (by decide) (by decide)).2.trans (e68_0.2 4 (by decide) (by decide)).2))).trans e22.2.2.2.1, ((e68_3.2 5 (by decide) (by decide)).1.trans ((e68_2.2 5 (by decide) (by decide)).1.trans ((e68_1.2 5 (by decide) (by decide)).1.trans (e68_0.2 5 (by decide) (by decide)).1))).trans e22.2.2.2.2, (congrFun ((e68_3.2 6 (by decide) (by decide)).1.trans ((e68_2.2 6 (by decide) (by decide)).1.trans ((e68_1.2 6 (by decide) (by decide)).1.trans (e68_0.2 6 (by decide) (by decide)).1))) 0).trans e33.1, (congrFun ((e68_3.2 6 (by decide) (by decide)).1.trans ((e68_2.2 6 (by decide) (by decide)).1.trans ((e68_1.2 6 (by decide) (by decide)).1.trans (e68_0.2 6 (by decide) (by decide)).1))) 2).trans e33.2.1⟩)
    · exact (nZ_nR (by decide) (nZ_cells e68_2.1 (fun k hk => by
        have h15 : k = 0 ∨ k = 1 ∨ k = 2 ∨ k = 3 ∨ k = 4 ∨ k = 5 ∨ k = 6 ∨ k = 7 ∨ k = 8 ∨ k = 9 ∨ k = 10 ∨ k = 11 ∨ k = 12 ∨ k = 13 ∨ k = 14 := by omega
        rcases h15 with rfl | rfl | rfl | rfl | rfl | rfl | rfl | rfl | rfl | rfl | rfl | rfl | rfl | rfl | rfl <;> exact ⟨rfl, rfl⟩)) ⟨(congrFun ((e68_3.2 1 (by decide) (by decide)).1.trans ((e68_2.2 1 (by decide) (by decide)).1.trans ((e68_1.2 1 (by decide) (by decide)).1.trans (e68_0.2 1 (by decide) (by decide)).1))) 4).trans e22.1, ((e68_3.2 2 (by decide) (by decide)).1.trans ((e68_2.2 2 (by decide) (by decide)).1.trans ((e68_1.2 2 (by decide) (by decide)).1.trans (e68_0.2 2 (by decide) (by decide)).1))).trans e22.2.1, ((e68_3.2 3 (by decide) (by decide)).1.trans ((e68_2.2 3 (by decide) (by decide)).1.trans ((e68_1.2 3 (by decide) (by decide)).1.trans (e68_0.2 3 (by decide) (by decide)).1))).trans e22.2.2.1, ((e68_3.2 4 (by decide) (by decide)).2.trans ((e68_2.2 4 (by decide) (by decide)).2.trans ((e68_1.2 4 (by decide) (by decide)).2.trans (e68_0.2 4 (by decide) (by decide)).2))).trans e22.2.2.2.1, ((e68_3.2 5 (by decide) (by decide)).1.trans ((e68_2.2 5 (by decide) (by decide)).1.trans ((e68_1.2 5 (by decide) (by decide)).1.trans (e68_0.2 5 (by decide) (by decide)).1))).trans e22.2.2.2.2, (congrFun ((e68_3.2 6 (by decide) (by decide)).1.trans ((e68_2.2 6 (by decide) (by decide)).1.trans ((e68_1.2 6 (by decide) (by decide)).1.trans (e68_0.2 6 (by decide) (by decide)).1))) 0).trans e33.1, (congrFun ((e68_3.2 6 (by decide) (by decide)).1.trans ((e68_2.2 6 (by decide) (by decide)).1.trans ((e68_1.2 6 (by decide) (by decide)).1.trans (e68_0.2 6 (by decide) (by decide)).1))) 2).trans e33.2.1⟩)
    · exact (nZ_nR (by decide) (nZ_cells e68_3.1 (fun k hk => by
        have h15 : k = 0 ∨ k = 1 ∨ k = 2 ∨ k = 3 ∨ k = 4 ∨ k = 5 ∨ k = 6 ∨ k = 7 ∨ k = 8 ∨ k = 9 ∨ k = 10 ∨ k = 11 ∨ k = 12 ∨ k = 13 ∨ k = 14 := by omega
        rcases h15 with rfl | rfl | rfl | rfl | rfl | rfl | rfl | rfl | rfl | rfl | rfl | rfl | rfl | rfl | rfl <;> exact ⟨rfl, rfl⟩)) ⟨(congrFun ((e68_3.2 1 (by decide) (by decide)).1.trans ((e68_2.2 1 (by decide) (by decide)).1.trans ((e68_1.2 1 (by decide) (by decide)).1.trans (e68_0.2 1 (by decide) (by decide)).1))) 4).trans e22.1, ((e68_3.2 2 (by decide) (by decide)).1.trans ((e68_2.2 2 (by decide) (by decide)).1.trans ((e68_1.2 2 (by decide) (by decide)).1.trans (e68_0.2 2 (by decide) (by decide)).1))).trans e22.2.1, ((e68_3.2 3 (by decide) (by decide)).1.trans ((e68_2.2 3 (by decide) (by decide)).1.trans ((e68_1.2 3 (by decide) (by decide)).1.trans (e68_0.2 3 (by decide) (by decide)).1))).trans e22.2.2.1, ((e68_3.2 4 (by decide) (by decide)).2.trans ((e68_2.2 4 (by decide) (by decide)).2.trans ((e68_1.2 4 (by decide) (by decide)).2.trans (e68_0.2 4 (by decide) (by decide)).2))).trans e22.2.2.2.1, ((e68_3.2 5 (by decide) (by decide)).1.trans ((e68_2.2 5 (by decide) (by decide)).1.trans ((e68_1.2 5 (by decide) (by decide)).1.trans (e68_0.2 5 (by decide) (by decide)).1))).trans e22.2.2.2.2, (congrFun ((e68_3.2 6 (by decide) (by decide)).1.trans ((e68_2.2 6 (by decide) (by decide)).1.trans ((e68_1.2 6 (by decide) (by decide)).1.trans (e68_0.2 6 (by decide) (by decide)).1))) 0).trans e33.1, (congrFun ((e68_3.2 6 (by decide) (by decide)).1.trans ((e68_2.2 6 (by decide) (by decide)).1.trans ((e68_1.2 6 (by decide) (by decide)).1.trans (e68_0.2 6 (by decide) (by decide)).1))) 2).trans e33.2.1⟩)
  refine mw_aload_n C 0 d_Wl_init_0 rfl rfl ?_
  refine mw_obj C wo_Wl wo_inst wo_code d_Wl_init_1 (by decide) (by decide) ?_
  refine mw_iload_n C 3 d_Wl_init_4 rfl rfl ?_
  refine mw_run0i C (ix0 _ _) (mw_invS C (m_Wl_isNode l D cA fv _) (ix0 _ _) kb_Wl_9 ws_Wl_isNode d_Wl_init_5 rfl rfl (Nat.le_of_ble_eq_true rfl) rfl rfl ⟨by decide, by decide⟩ ⟨Nat.zero_le _, Nat.zero_le _⟩) (fun x5 e5 => ?_)
  rcases e5 with ⟨rfl, hk⟩ | ⟨rfl, hk⟩
  · have h4 : fv = slv fy := by
      rcases hfy with ⟨h1, h2⟩ | ⟨h1, h2⟩
      · rw [h2]
        exact (if_pos h1).symm
      · exact absurd hk h2
    refine mw_if_eqN C 15 d_Wl_init_8 (by decide) (by omega) (fun h8 => absurd h8 (by decide)) (fun h8 => ?_)
    refine mw_iload_n C 3 d_Wl_init_11 rfl rfl ?_
    refine mw_goto C 16 d_Wl_init_12 (by decide) ?_
    have e9 := tail
    rw [← h4] at e9
    exact e9
  · have h4 : slv fy = -1 := by
      rcases hfy with ⟨h1, h2⟩ | ⟨h1, h2⟩
      · exact absurd ⟨fy, h1, h2⟩ hk
      · exact if_neg (by omega)
    refine mw_if_eqN C 15 d_Wl_init_8 (by decide) (by omega) (fun h8 => ?_) (fun h8 => absurd h8 (by decide))
    refine mw_iconst C (v := (-1)) d_Wl_init_15 (by decide) ?_
    have e9 := tail
    rw [h4] at e9
    exact e9
theorem upd_to (i : Nat) (x : Int32) : upd (fun j => if j < i then x else 0) i x = (fun j => if j < i + 1 then x else 0) := by
  funext j
  unfold upd
  by_cases h : j = i
  · rw [if_pos h, if_pos (by omega)]
  · rw [if_neg h]
    dsimp only
    by_cases h2 : j < i
    · rw [if_pos h2, if_pos (by omega)]
    · rw [if_neg h2, if_neg (by omega)]
set_option maxHeartbeats 4000000 in
set_option maxRecDepth 100000 in
theorem m_Mo_init (l : Launch) (D : va_G) (cA : Nat → ClassId) (seed cn fv : Int32) (S : mw_S) (hz : S.1 0 = fz) : mw_MI l lw_tbl (fun _ => True) y_Mo_init b_Mo_init 5 { frames := 1, cells := 21, slots := 5496, locals := 20 } D vCl cA sh_Mo0 1 [.inr (.inr 0), .inl seed, .inl cn, .inl fv] (S) sh_Mo 22 21 5496 (fun S' => mR cn fv (a_0 seed) S') := by
  refine mw_MI_of (by decide) rfl (Nat.le_of_ble_eq_true rfl) ?_
  intro p e s m args below meth c A ad0 C hR hI hx
  refine mw_aload_n C 0 d_Mo_init_0 rfl rfl ?_
  refine mw_obj C wo_Mo wo_inst wo_code d_Mo_init_1 (by decide) (by decide) ?_
  refine mw_aload_n C 0 d_Mo_init_4 rfl rfl ?_
  refine mw_bipush C (v := nI 80) d_Mo_init_5 (by decide) ?_
  refine mw_newaI C (atype := .int) (ty := .int) 0 rfl rfl (fun _ _ h => h) rfl wa_int (by decide) (by decide) d_Mo_init_7 (by decide +kernel) rfl rfl (by decide) (by decide) (fun ad hy C => ?_)
  have hx := mw_hx hx hy (by decide)
  refine mw_putIr C fo_Mo_7 hI.1 (fun _ => ⟨rfl, rfl⟩) d_Mo_init_9 (by decide) rfl (by decide) ?_
  refine mw_aload_n C 0 d_Mo_init_12 rfl rfl ?_
  refine mw_bipush C (v := nI 80) d_Mo_init_13 (by decide) ?_
  refine mw_newaI C (atype := .int) (ty := .int) 0 rfl rfl (fun _ _ h => h) rfl wa_int (by decide) (by decide) d_Mo_init_15 (by decide +kernel) rfl rfl (by decide) (by decide) (fun ad hy C => ?_)
  have hx := mw_hx hx hy (by decide)
  refine mw_putIr C fo_Mo_13 hI.1 (fun _ => ⟨rfl, rfl⟩) d_Mo_init_17 (by decide) rfl (by decide) ?_
  refine mw_aload_n C 0 d_Mo_init_20 rfl rfl ?_
  refine mw_bipush C (v := nI 80) d_Mo_init_21 (by decide) ?_
  refine mw_newaL C wa_long (by decide) (by decide) d_Mo_init_23 (by decide +kernel) rfl rfl (by decide) (by decide) (fun ad hy C => ?_)
  have hx := mw_hx hx hy (by decide)
  refine mw_putIr C fo_Mo_16 hI.1 (fun _ => ⟨rfl, rfl⟩) d_Mo_init_25 (by decide) rfl (by decide) ?_
  refine mw_aload_n C 0 d_Mo_init_28 rfl rfl ?_
  refine mw_bipush C (v := nI 80) d_Mo_init_29 (by decide) ?_
  refine mw_newaI C (atype := .int) (ty := .int) 0 rfl rfl (fun _ _ h => h) rfl wa_int (by decide) (by decide) d_Mo_init_31 (by decide +kernel) rfl rfl (by decide) (by decide) (fun ad hy C => ?_)
  have hx := mw_hx hx hy (by decide)
  refine mw_putIr C fo_Mo_20 hI.1 (fun _ => ⟨rfl, rfl⟩) d_Mo_init_33 (by decide) rfl (by decide) ?_
  refine mw_aload_n C 0 d_Mo_init_36 rfl rfl ?_
  refine mw_sipush C (v := nI 2400) d_Mo_init_37 (by decide) ?_
  refine mw_newaI C (atype := .int) (ty := .int) 0 rfl rfl (fun _ _ h => h) rfl wa_int (by decide) (by decide) d_Mo_init_40 (by decide +kernel) rfl rfl (by decide) (by decide) (fun ad hy C => ?_)
  have hx := mw_hx hx hy (by decide)
  refine mw_putIr C fo_Mo_23 hI.1 (fun _ => ⟨rfl, rfl⟩) d_Mo_init_42 (by decide) rfl (by decide) ?_
  refine mw_aload_n C 0 d_Mo_init_45 rfl rfl ?_
  refine mw_sipush C (v := nI 192) d_Mo_init_46 (by decide) ?_
  refine mw_newaI C (atype := .boolean) (ty := .boolean) 2 rfl rfl (fun _ _ h => h) rfl wa_boolean (by decide) (by decide) d_Mo_init_49 (by decide +kernel) rfl rfl (by decide) (by decide) (fun ad hy C => ?_)
  have hx := mw_hx hx hy (by decide)
  refine mw_putIr C fo_Mo_26 hI.1 (fun _ => ⟨rfl, rfl⟩) d_Mo_init_51 (by decide) rfl (by decide) ?_
  refine mw_aload_n C 0 d_Mo_init_54 rfl rfl ?_
  refine mw_sipush C (v := nI 192) d_Mo_init_55 (by decide) ?_
  refine mw_newaI C (atype := .boolean) (ty := .boolean) 2 rfl rfl (fun _ _ h => h) rfl wa_boolean (by decide) (by decide) d_Mo_init_58 (by decide +kernel) rfl rfl (by decide) (by decide) (fun ad hy C => ?_)
  have hx := mw_hx hx hy (by decide)
  refine mw_putIr C fo_Mo_30 hI.1 (fun _ => ⟨rfl, rfl⟩) d_Mo_init_60 (by decide) rfl (by decide) ?_
  refine mw_aload_n C 0 d_Mo_init_63 rfl rfl ?_
  refine mw_sipush C (v := nI 192) d_Mo_init_64 (by decide) ?_
  refine mw_newaI C (atype := .int) (ty := .int) 0 rfl rfl (fun _ _ h => h) rfl wa_int (by decide) (by decide) d_Mo_init_67 (by decide +kernel) rfl rfl (by decide) (by decide) (fun ad hy C => ?_)
  have hx := mw_hx hx hy (by decide)
  refine mw_putIr C fo_Mo_33 hI.1 (fun _ => ⟨rfl, rfl⟩) d_Mo_init_69 (by decide) rfl (by decide) ?_
  refine mw_aload_n C 0 d_Mo_init_72 rfl rfl ?_
  refine mw_sipush C (v := nI 192) d_Mo_init_73 (by decide) ?_
  refine mw_newaI C (atype := .boolean) (ty := .boolean) 2 rfl rfl (fun _ _ h => h) rfl wa_boolean (by decide) (by decide) d_Mo_init_76 (by decide +kernel) rfl rfl (by decide) (by decide) (fun ad hy C => ?_)
  have hx := mw_hx hx hy (by decide)
  refine mw_putIr C fo_Mo_36 hI.1 (fun _ => ⟨rfl, rfl⟩) d_Mo_init_78 (by decide) rfl (by decide) ?_
  refine mw_aload_n C 0 d_Mo_init_81 rfl rfl ?_
  refine mw_sipush C (v := nI 192) d_Mo_init_82 (by decide) ?_
  refine mw_newaI C (atype := .boolean) (ty := .boolean) 2 rfl rfl (fun _ _ h => h) rfl wa_boolean (by decide) (by decide) d_Mo_init_85 (by decide +kernel) rfl rfl (by decide) (by decide) (fun ad hy C => ?_)
  have hx := mw_hx hx hy (by decide)
  refine mw_putIr C fo_Mo_39 hI.1 (fun _ => ⟨rfl, rfl⟩) d_Mo_init_87 (by decide) rfl (by decide) ?_
  refine mw_aload_n C 0 d_Mo_init_90 rfl rfl ?_
  refine mw_sipush C (v := nI 192) d_Mo_init_91 (by decide) ?_
  refine mw_newaI C (atype := .int) (ty := .int) 0 rfl rfl (fun _ _ h => h) rfl wa_int (by decide) (by decide) d_Mo_init_94 (by decide +kernel) rfl rfl (by decide) (by decide) (fun ad hy C => ?_)
  have hx := mw_hx hx hy (by decide)
  refine mw_putIr C fo_Mo_42 hI.1 (fun _ => ⟨rfl, rfl⟩) d_Mo_init_96 (by decide) rfl (by decide) ?_
  refine mw_aload_n C 0 d_Mo_init_99 rfl rfl ?_
  refine mw_sipush C (v := nI 768) d_Mo_init_100 (by decide) ?_
  refine mw_newaI C (atype := .int) (ty := .int) 0 rfl rfl (fun _ _ h => h) rfl wa_int (by decide) (by decide) d_Mo_init_103 (by decide +kernel) rfl rfl (by decide) (by decide) (fun ad hy C => ?_)
  have hx := mw_hx hx hy (by decide)
  refine mw_putIr C fo_Mo_45 hI.1 (fun _ => ⟨rfl, rfl⟩) d_Mo_init_105 (by decide) rfl (by decide) ?_
  refine mw_aload_n C 0 d_Mo_init_108 rfl rfl ?_
  refine mw_sipush C (v := nI 768) d_Mo_init_109 (by decide) ?_
  refine mw_newaI C (atype := .int) (ty := .int) 0 rfl rfl (fun _ _ h => h) rfl wa_int (by decide) (by decide) d_Mo_init_112 (by decide +kernel) rfl rfl (by decide) (by decide) (fun ad hy C => ?_)
  have hx := mw_hx hx hy (by decide)
  refine mw_putIr C fo_Mo_48 hI.1 (fun _ => ⟨rfl, rfl⟩) d_Mo_init_114 (by decide) rfl (by decide) ?_
  refine mw_aload_n C 0 d_Mo_init_117 rfl rfl ?_
  refine mw_iconst C (v := nI 4) d_Mo_init_118 (by decide) ?_
  refine mw_newaI C (atype := .int) (ty := .int) 0 rfl rfl (fun _ _ h => h) rfl wa_int (by decide) (by decide) d_Mo_init_119 (by decide +kernel) rfl rfl (by decide) (by decide) (fun ad hy C => ?_)
  have hx := mw_hx hx hy (by decide)
  refine mw_putIr C fo_Mo_51 hI.1 (fun _ => ⟨rfl, rfl⟩) d_Mo_init_121 (by decide) rfl (by decide) ?_
  refine mw_aload_n C 0 d_Mo_init_124 rfl rfl ?_
  refine mw_iconst C (v := nI 4) d_Mo_init_125 (by decide) ?_
  refine mw_newaI C (atype := .boolean) (ty := .boolean) 2 rfl rfl (fun _ _ h => h) rfl wa_boolean (by decide) (by decide) d_Mo_init_126 (by decide +kernel) rfl rfl (by decide) (by decide) (fun ad hy C => ?_)
  have hx := mw_hx hx hy (by decide)
  refine mw_putIr C fo_Mo_54 hI.1 (fun _ => ⟨rfl, rfl⟩) d_Mo_init_128 (by decide) rfl (by decide) ?_
  refine mw_aload_n C 0 d_Mo_init_131 rfl rfl ?_
  refine mw_iconst C (v := nI 4) d_Mo_init_132 (by decide) ?_
  refine mw_newaI C (atype := .int) (ty := .int) 0 rfl rfl (fun _ _ h => h) rfl wa_int (by decide) (by decide) d_Mo_init_133 (by decide +kernel) rfl rfl (by decide) (by decide) (fun ad hy C => ?_)
  have hx := mw_hx hx hy (by decide)
  refine mw_putIr C fo_Mo_57 hI.1 (fun _ => ⟨rfl, rfl⟩) d_Mo_init_135 (by decide) rfl (by decide) ?_
  refine mw_aload_n C 0 d_Mo_init_138 rfl rfl ?_
  refine mw_iconst C (v := nI 4) d_Mo_init_139 (by decide) ?_
  refine mw_newaI C (atype := .int) (ty := .int) 0 rfl rfl (fun _ _ h => h) rfl wa_int (by decide) (by decide) d_Mo_init_140 (by decide +kernel) rfl rfl (by decide) (by decide) (fun ad hy C => ?_)
  have hx := mw_hx hx hy (by decide)
  refine mw_putIr C fo_Mo_60 hI.1 (fun _ => ⟨rfl, rfl⟩) d_Mo_init_142 (by decide) rfl (by decide) ?_
  refine mw_aload_n C 0 d_Mo_init_145 rfl rfl ?_
  refine mw_bipush C (v := nI 16) d_Mo_init_146 (by decide) ?_
  refine mw_newaI C (atype := .int) (ty := .int) 0 rfl rfl (fun _ _ h => h) rfl wa_int (by decide) (by decide) d_Mo_init_148 (by decide +kernel) rfl rfl (by decide) (by decide) (fun ad hy C => ?_)
  have hx := mw_hx hx hy (by decide)
  refine mw_putIr C fo_Mo_63 hI.1 (fun _ => ⟨rfl, rfl⟩) d_Mo_init_150 (by decide) rfl (by decide) ?_
  refine mw_aload_n C 0 d_Mo_init_153 rfl rfl ?_
  refine mw_bipush C (v := nI 48) d_Mo_init_154 (by decide) ?_
  refine mw_newaI C (atype := .int) (ty := .int) 0 rfl rfl (fun _ _ h => h) rfl wa_int (by decide) (by decide) d_Mo_init_156 (by decide +kernel) rfl rfl (by decide) (by decide) (fun ad hy C => ?_)
  have hx := mw_hx hx hy (by decide)
  refine mw_putIr C fo_Mo_66 hI.1 (fun _ => ⟨rfl, rfl⟩) d_Mo_init_158 (by decide) rfl (by decide) ?_
  refine mw_aload_n C 0 d_Mo_init_161 rfl rfl ?_
  refine mw_iconst C (v := nI 4) d_Mo_init_162 (by decide) ?_
  refine mw_newaI C (atype := .int) (ty := .int) 0 rfl rfl (fun _ _ h => h) rfl wa_int (by decide) (by decide) d_Mo_init_163 (by decide +kernel) rfl rfl (by decide) (by decide) (fun ad hy C => ?_)
  have hx := mw_hx hx hy (by decide)
  refine mw_putIr C fo_Mo_69 hI.1 (fun _ => ⟨rfl, rfl⟩) d_Mo_init_165 (by decide) rfl (by decide) ?_
  refine mw_aload_n C 0 d_Mo_init_168 rfl rfl ?_
  refine mw_iconst C (v := nI 4) d_Mo_init_169 (by decide) ?_
  refine mw_newaI C (atype := .int) (ty := .int) 0 rfl rfl (fun _ _ h => h) rfl wa_int (by decide) (by decide) d_Mo_init_170 (by decide +kernel) rfl rfl (by decide) (by decide) (fun ad hy C => ?_)
  have hx := mw_hx hx hy (by decide)
  refine mw_putIr C fo_Mo_72 hI.1 (fun _ => ⟨rfl, rfl⟩) d_Mo_init_172 (by decide) rfl (by decide) ?_
  refine mw_aload_n C 0 d_Mo_init_175 rfl rfl ?_
  refine mw_iload_n C 1 d_Mo_init_176 rfl rfl ?_
  refine mw_putIi C fo_Mo_75 hI.1 d_Mo_init_177 (by decide) rfl rfl ?_
  refine mw_aload_n C 0 d_Mo_init_180 rfl rfl ?_
  refine mw_iload_n C 2 d_Mo_init_181 rfl rfl ?_
  refine mw_putIi C fo_Mo_79 hI.1 d_Mo_init_182 (by decide) rfl rfl ?_
  refine mw_aload_n C 0 d_Mo_init_185 rfl rfl ?_
  refine mw_iload_n C 3 d_Mo_init_186 rfl rfl ?_
  refine mw_putIi C fo_Mo_82 hI.1 d_Mo_init_187 (by decide) rfl rfl ?_
  refine mw_iconst C (v := nI 0) d_Mo_init_190 (by decide) ?_
  refine mw_istore C d_Mo_init_191 (by decide) ?_
  refine mw_shEq (sh' := sh_Mo) (by decide +kernel) ?_
  refine mw_to [(0, .inr (.inr 0)), (4, .inl (nI 0))] (by exact And.intro rfl (And.intro rfl trivial)) ?_
  refine mw_widen (k1 := 21) (n1 := 5496) (by decide) (by decide) ?_
  have loop : ∀ (d i : Nat), i + d = 16 → ∀ S9 : mw_S, S9.1 18 = (fun j => if j < i then nI 100 else 0) → mR cn fv (a_0 seed) (mw_rI S9 18 (fun j => if j < 16 then nI 100 else 0)) → mw p l e { frames := 1, cells := 21, slots := 5496, locals := 20 } s m args below meth c (MQ below (mw_QI D vCl cA ad0 sh_Mo0 1 s.heap.size S sh_Mo 22 (fun S' => mR cn fv (a_0 seed) S')) args s 21 5496 A) 21 5496 D vCl cA A ad sh_Mo 22 5 193 [(0, .inr (.inr 0)), (4, .inl (nI i))] [] S9 := by
    intro d0
    induction d0 with
    | zero =>
      intro i hi S9 h18 hm
      refine mw_iload C d_Mo_init_193 rfl ?_
      refine mw_bipush C (v := nI 16) d_Mo_init_195 (by decide) ?_
      refine mw_icmp_geN C 215 d_Mo_init_197 (by decide) (by omega) (by omega) (fun h197 => ?_) (fun h197 => absurd h197 (by omega))
      refine mw_vretI C hR hx (by decide) d_Mo_init_215 (by decide) (by decide) ?_
      have e16 : i = 16 := by omega
      subst e16
      have e9 : mw_rI S9 18 (fun j => if j < 16 then nI 100 else 0) = S9 := by
        rw [← h18]
        refine Prod.ext ?_ rfl
        funext k
        by_cases h : k = 18
        · subst h; exact mw_rI_s S9 18 _
        · exact mw_rI_n S9 _ h
      rw [e9] at hm
      exact hm
    | succ d0 ih =>
      intro i hi S9 h18 hm
      refine mw_iload C d_Mo_init_193 rfl ?_
      refine mw_bipush C (v := nI 16) d_Mo_init_195 (by decide) ?_
      refine mw_icmp_geN C 215 d_Mo_init_197 (by decide) (by omega) (by omega) (fun h197 => absurd h197 (by omega)) (fun h197 => ?_)
      refine mw_aload_n C 0 d_Mo_init_200 rfl rfl ?_
      refine mw_getr C f_Mo_63 d_Mo_init_201 (by decide) rfl rfl ?_
      refine mw_iload C d_Mo_init_204 rfl ?_
      refine mw_bipush C (v := nI 100) d_Mo_init_206 (by decide) ?_
      refine mw_iastN C rfl d_Mo_init_208 (by decide) rfl (by omega) (by decide) ?_
      refine mw_iincN C d_Mo_init_209 rfl (by decide) ?_
      refine mw_goto C 193 d_Mo_init_212 (by decide) ?_
      refine mw_to [(0, .inr (.inr 0)), (4, .inl (nI (i + 1)))] (by exact And.intro rfl (And.intro rfl trivial)) ?_
      refine ih (i + 1) (by omega) (mw_uI S9 18 i (nI 100)) ?_ ?_
      · show (mw_rI S9 18 (upd (S9.1 18) i (nI 100))).1 18 = _
        rw [mw_rI_s, h18, upd_to]
      · have e9 : mw_rI (mw_uI S9 18 i (nI 100)) 18 (fun j => if j < 16 then nI 100 else 0) = mw_rI S9 18 (fun j => if j < 16 then nI 100 else 0) := by
          refine Prod.ext ?_ rfl
          funext k
          by_cases h : k = 18
          · subst h; rw [mw_rI_s, mw_rI_s]
          · rw [mw_rI_n _ _ h, mw_rI_n _ _ h]
            exact mw_rI_n S9 _ h
        rw [e9]
        exact hm
  refine loop 16 0 rfl _ rfl ?_
  refine ⟨rfl, rfl, rfl, fun j hj => ?_, fun f j hf => ?_, fun j => rfl⟩
  · have h5 : j = 0 ∨ j = 4 ∨ j = 5 ∨ j = 10 ∨ j = 12 := by
      unfold mo_sc at hj
      simp only [Bool.or_eq_true, beq_iff_eq] at hj
      exact hj
    rw [a_0_0 seed (by decide)]
    rcases h5 with rfl | rfl | rfl | rfl | rfl
    · exact (congrFun hz 0 : S.1 0 0 = 0)
    · exact (congrFun hz 4 : S.1 0 4 = 0)
    · exact (congrFun hz 5 : S.1 0 5 = 0)
    · exact (congrFun hz 10 : S.1 0 10 = 0)
    · exact (congrFun hz 12 : S.1 0 12 = 0)
  · have h21 : f = 1 ∨ f = 2 ∨ f = 4 ∨ f = 5 ∨ f = 6 ∨ f = 7 ∨ f = 8 ∨ f = 9 ∨ f = 10 ∨ f = 11 ∨ f = 12 ∨ f = 13 ∨ f = 14 ∨ f = 15 ∨ f = 16 ∨ f = 17 ∨ f = 18 ∨ f = 19 ∨ f = 20 ∨ f = 21 := by
      unfold mo_ar at hf
      simp only [Bool.and_eq_true, decide_eq_true_eq] at hf
      omega
    by_cases h18 : f = 18
    · subst h18
      show (if j < 16 then nI 100 else 0 : Int32) = nI (if 18 = 18 ∧ j < 16 then 100 else 0)
      by_cases h : j < 16
      · rw [if_pos h, if_pos ⟨rfl, h⟩]
      · rw [if_neg h, if_neg (fun q => h q.2)]
        rfl
    · rw [a_0_0 seed h18]
      rcases h21 with rfl | rfl | rfl | rfl | rfl | rfl | rfl | rfl | rfl | rfl | rfl | rfl | rfl | rfl | rfl | rfl | rfl | rfl | rfl | rfl <;> first | rfl | exact absurd rfl h18
