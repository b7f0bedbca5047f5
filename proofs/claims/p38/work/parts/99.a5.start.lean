/-! the start: the first memory, the addresses -/
def ew_s0 (sc : Int → Int) : ev_M := fun i j => if i = 163 then 46 + 23 * j else if i = 200 then sc j else 0
def ew_ad (h0 hm : Nat) (v : Nat → Nat → Nat) (i : Int) : Nat := if i.toNat < 23 then v 0 i.toNat else if i.toNat < 46 then v 1 (i.toNat - 23) else if i.toNat < 161 then v 2 (i.toNat - 44) else if i.toNat = 161 then h0 else if i.toNat < 164 then v 2 (i.toNat - 162) else if i.toNat < 170 then v 3 (i.toNat - 164) else if i.toNat < 173 then v 4 (i.toNat - 170) else if i.toNat < 177 then v 5 (i.toNat - 173) else if i.toNat < 179 then v 6 (i.toNat - 177) else if i.toNat < 182 then v 7 (i.toNat - 179) else hm
def ew_pl : List Nat := [1, 2, 3, 4, 5, 6, 7, 8, 9, 10, 11, 12, 13, 14, 15, 16, 17, 18, 19, 20, 21, 22, 23, 24, 25, 26, 27, 28, 29, 30, 31, 32, 33, 34, 35, 36, 37, 38, 39, 40, 41, 42, 43, 44, 45, 46, 49, 50, 51, 52, 53, 54, 55, 56, 57, 58, 59, 60, 61, 62, 63, 64, 65, 66, 67, 68, 69, 70, 71, 72, 73, 74, 75, 76, 77, 78, 79, 80, 81, 82, 83, 84, 85, 86, 87, 88, 89, 90, 91, 92, 93, 94, 95, 96, 97, 98, 99, 100, 101, 102, 103, 104, 105, 106, 107, 108, 109, 110, 111, 112, 113, 114, 115, 116, 117, 118, 119, 120, 121, 122, 123, 124, 125, 126, 127, 128, 129, 130, 131, 132, 133, 134, 135, 136, 137, 138, 139, 140, 141, 142, 143, 144, 145, 146, 147, 148, 149, 150, 151, 152, 153, 154, 155, 156, 157, 158, 159, 160, 161, 162, 163, 0, 47, 48, 164, 165, 166, 167, 168, 169, 170, 171, 172, 173, 174, 175, 176, 177, 178, 179, 180, 181]
def ew_iv : List Nat := [161, 0, 1, 2, 3, 4, 5, 6, 7, 8, 9, 10, 11, 12, 13, 14, 15, 16, 17, 18, 19, 20, 21, 22, 23, 24, 25, 26, 27, 28, 29, 30, 31, 32, 33, 34, 35, 36, 37, 38, 39, 40, 41, 42, 43, 44, 45, 162, 163, 46, 47, 48, 49, 50, 51, 52, 53, 54, 55, 56, 57, 58, 59, 60, 61, 62, 63, 64, 65, 66, 67, 68, 69, 70, 71, 72, 73, 74, 75, 76, 77, 78, 79, 80, 81, 82, 83, 84, 85, 86, 87, 88, 89, 90, 91, 92, 93, 94, 95, 96, 97, 98, 99, 100, 101, 102, 103, 104, 105, 106, 107, 108, 109, 110, 111, 112, 113, 114, 115, 116, 117, 118, 119, 120, 121, 122, 123, 124, 125, 126, 127, 128, 129, 130, 131, 132, 133, 134, 135, 136, 137, 138, 139, 140, 141, 142, 143, 144, 145, 146, 147, 148, 149, 150, 151, 152, 153, 154, 155, 156, 157, 158, 159, 160, 164, 165, 166, 167, 168, 169, 170, 171, 172, 173, 174, 175, 176, 177, 178, 179, 180, 181]
theorem ew_iv_ok : ∀ k, k < 182 → ew_iv.getD (ew_pl.getD k 0) 0 = k := by decide +kernel
def ew_L (cI cZ cS : ClassId) (h0 hm : Nat) (v : Nat → Nat → Nat) (f : Nat → Option Nat) : va_W := [(h0, .inr (10, [.ref (v 0 0), .ref (v 1 0), .ref (v 2 0), .ref (v 3 0), .ref (v 4 0), .ref (v 5 0), .ref (v 6 0), .ref (v 7 0)])), (v 0 0, .inr (7, [.ref (v 0 1), .ref (v 0 6), .ref (v 0 17), .int 0, .int 0, .int 0, .int 0])), (v 0 1, .inr (6, [.int 0, .int 0, .ref (v 0 2), .ref (v 0 3), .ref (v 0 4), .ref (v 0 5)])), (v 0 2, .inl (cI, 20, .inl (fun _ => 0))), (v 0 3, .inl (cI, 20, .inl (fun _ => 0))), (v 0 4, .inl (cI, 20, .inl (fun _ => 0))), (v 0 5, .inl (cI, 20, .inl (fun _ => 0))), (v 0 6, .inr (1, [.int 0, .ref (v 0 7), .ref (v 0 8), .ref (v 0 9), .ref (v 0 10), .ref (v 0 11), .ref (v 0 12), .ref (v 0 13), .ref (v 0 14), .ref (v 0 15), .ref (v 0 16)])), (v 0 7, .inl (cI, 6, .inl (fun _ => 0))), (v 0 8, .inl (cI, 6, .inl (fun _ => 0))), (v 0 9, .inl (cI, 6, .inl (fun _ => 0))), (v 0 10, .inl (cZ, 6, .inl (fun _ => 0))), (v 0 11, .inl (cI, 6, .inl (fun _ => 0))), (v 0 12, .inl (cI, 36, .inl (fun _ => 0))), (v 0 13, .inl (cI, 36, .inl (fun _ => 0))), (v 0 14, .inl (cI, 36, .inl (fun _ => 0))), (v 0 15, .inl (cI, 36, .inl (fun _ => 0))), (v 0 16, .inl (cI, 36, .inl (fun _ => 0))), (v 0 17, .inr (4, [.int 0, .int 0, .ref (v 0 18), .ref (v 0 19), .ref (v 0 20), .ref (v 0 21), .ref (v 0 22)])), (v 0 18, .inl (cI, 8, .inl (fun _ => 0))), (v 0 19, .inl (cI, 8, .inl (fun _ => 0))), (v 0 20, .inl (cI, 8, .inl (fun _ => 0))), (v 0 21, .inl (cI, 3, .inl (fun _ => 0))), (v 0 22, .inl (cI, 12, .inl (fun _ => 0))), (v 1 0, .inr (7, [.ref (v 1 1), .ref (v 1 6), .ref (v 1 17), .int 0, .int 0, .int 0, .int 0])), (v 1 1, .inr (6, [.int 0, .int 0, .ref (v 1 2), .ref (v 1 3), .ref (v 1 4), .ref (v 1 5)])), (v 1 2, .inl (cI, 20, .inl (fun _ => 0))), (v 1 3, .inl (cI, 20, .inl (fun _ => 0))), (v 1 4, .inl (cI, 20, .inl (fun _ => 0))), (v 1 5, .inl (cI, 20, .inl (fun _ => 0))), (v 1 6, .inr (1, [.int 0, .ref (v 1 7), .ref (v 1 8), .ref (v 1 9), .ref (v 1 10), .ref (v 1 11), .ref (v 1 12), .ref (v 1 13), .ref (v 1 14), .ref (v 1 15), .ref (v 1 16)])), (v 1 7, .inl (cI, 6, .inl (fun _ => 0))), (v 1 8, .inl (cI, 6, .inl (fun _ => 0))), (v 1 9, .inl (cI, 6, .inl (fun _ => 0))), (v 1 10, .inl (cZ, 6, .inl (fun _ => 0))), (v 1 11, .inl (cI, 6, .inl (fun _ => 0))), (v 1 12, .inl (cI, 36, .inl (fun _ => 0))), (v 1 13, .inl (cI, 36, .inl (fun _ => 0))), (v 1 14, .inl (cI, 36, .inl (fun _ => 0))), (v 1 15, .inl (cI, 36, .inl (fun _ => 0))), (v 1 16, .inl (cI, 36, .inl (fun _ => 0))), (v 1 17, .inr (4, [.int 0, .int 0, .ref (v 1 18), .ref (v 1 19), .ref (v 1 20), .ref (v 1 21), .ref (v 1 22)])), (v 1 18, .inl (cI, 8, .inl (fun _ => 0))), (v 1 19, .inl (cI, 8, .inl (fun _ => 0))), (v 1 20, .inl (cI, 8, .inl (fun _ => 0))), (v 1 21, .inl (cI, 3, .inl (fun _ => 0))), (v 1 22, .inl (cI, 12, .inl (fun _ => 0))), (v 2 0, .inr (3, [.int 0, .ref (v 2 1)])), (v 2 1, .inl (cS, 5, .inr (.inr (.inr (.inr f))))), (v 2 2, .inr (7, [.ref (v 2 3), .ref (v 2 8), .ref (v 2 19), .int 0, .int 0, .int 0, .int 0])), (v 2 3, .inr (6, [.int 0, .int 0, .ref (v 2 4), .ref (v 2 5), .ref (v 2 6), .ref (v 2 7)])), (v 2 4, .inl (cI, 20, .inl (fun _ => 0))), (v 2 5, .inl (cI, 20, .inl (fun _ => 0))), (v 2 6, .inl (cI, 20, .inl (fun _ => 0))), (v 2 7, .inl (cI, 20, .inl (fun _ => 0))), (v 2 8, .inr (1, [.int 0, .ref (v 2 9), .ref (v 2 10), .ref (v 2 11), .ref (v 2 12), .ref (v 2 13), .ref (v 2 14), .ref (v 2 15), .ref (v 2 16), .ref (v 2 17), .ref (v 2 18)])), (v 2 9, .inl (cI, 6, .inl (fun _ => 0))), (v 2 10, .inl (cI, 6, .inl (fun _ => 0))), (v 2 11, .inl (cI, 6, .inl (fun _ => 0))), (v 2 12, .inl (cZ, 6, .inl (fun _ => 0))), (v 2 13, .inl (cI, 6, .inl (fun _ => 0))), (v 2 14, .inl (cI, 36, .inl (fun _ => 0))), (v 2 15, .inl (cI, 36, .inl (fun _ => 0))), (v 2 16, .inl (cI, 36, .inl (fun _ => 0))), (v 2 17, .inl (cI, 36, .inl (fun _ => 0))), (v 2 18, .inl (cI, 36, .inl (fun _ => 0))), (v 2 19, .inr (4, [.int 0, .int 0, .ref (v 2 20), .ref (v 2 21), .ref (v 2 22), .ref (v 2 23), .ref (v 2 24)])), (v 2 20, .inl (cI, 8, .inl (fun _ => 0))), (v 2 21, .inl (cI, 8, .inl (fun _ => 0))), (v 2 22, .inl (cI, 8, .inl (fun _ => 0))), (v 2 23, .inl (cI, 3, .inl (fun _ => 0))), (v 2 24, .inl (cI, 12, .inl (fun _ => 0))), (v 2 25, .inr (7, [.ref (v 2 26), .ref (v 2 31), .ref (v 2 42), .int 0, .int 0, .int 0, .int 0])), (v 2 26, .inr (6, [.int 0, .int 0, .ref (v 2 27), .ref (v 2 28), .ref (v 2 29), .ref (v 2 30)])), (v 2 27, .inl (cI, 20, .inl (fun _ => 0))), (v 2 28, .inl (cI, 20, .inl (fun _ => 0))), (v 2 29, .inl (cI, 20, .inl (fun _ => 0))), (v 2 30, .inl (cI, 20, .inl (fun _ => 0))), (v 2 31, .inr (1, [.int 0, .ref (v 2 32), .ref (v 2 33), .ref (v 2 34), .ref (v 2 35), .ref (v 2 36), .ref (v 2 37), .ref (v 2 38), .ref (v 2 39), .ref (v 2 40), .ref (v 2 41)])), (v 2 32, .inl (cI, 6, .inl (fun _ => 0))), (v 2 33, .inl (cI, 6, .inl (fun _ => 0))), (v 2 34, .inl (cI, 6, .inl (fun _ => 0))), (v 2 35, .inl (cZ, 6, .inl (fun _ => 0))), (v 2 36, .inl (cI, 6, .inl (fun _ => 0))), (v 2 37, .inl (cI, 36, .inl (fun _ => 0))), (v 2 38, .inl (cI, 36, .inl (fun _ => 0))), (v 2 39, .inl (cI, 36, .inl (fun _ => 0))), (v 2 40, .inl (cI, 36, .inl (fun _ => 0))), (v 2 41, .inl (cI, 36, .inl (fun _ => 0))), (v 2 42, .inr (4, [.int 0, .int 0, .ref (v 2 43), .ref (v 2 44), .ref (v 2 45), .ref (v 2 46), .ref (v 2 47)])), (v 2 43, .inl (cI, 8, .inl (fun _ => 0))), (v 2 44, .inl (cI, 8, .inl (fun _ => 0))), (v 2 45, .inl (cI, 8, .inl (fun _ => 0))), (v 2 46, .inl (cI, 3, .inl (fun _ => 0))), (v 2 47, .inl (cI, 12, .inl (fun _ => 0))), (v 2 48, .inr (7, [.ref (v 2 49), .ref (v 2 54), .ref (v 2 65), .int 0, .int 0, .int 0, .int 0])), (v 2 49, .inr (6, [.int 0, .int 0, .ref (v 2 50), .ref (v 2 51), .ref (v 2 52), .ref (v 2 53)])), (v 2 50, .inl (cI, 20, .inl (fun _ => 0))), (v 2 51, .inl (cI, 20, .inl (fun _ => 0))), (v 2 52, .inl (cI, 20, .inl (fun _ => 0))), (v 2 53, .inl (cI, 20, .inl (fun _ => 0))), (v 2 54, .inr (1, [.int 0, .ref (v 2 55), .ref (v 2 56), .ref (v 2 57), .ref (v 2 58), .ref (v 2 59), .ref (v 2 60), .ref (v 2 61), .ref (v 2 62), .ref (v 2 63), .ref (v 2 64)])), (v 2 55, .inl (cI, 6, .inl (fun _ => 0))), (v 2 56, .inl (cI, 6, .inl (fun _ => 0))), (v 2 57, .inl (cI, 6, .inl (fun _ => 0))), (v 2 58, .inl (cZ, 6, .inl (fun _ => 0))), (v 2 59, .inl (cI, 6, .inl (fun _ => 0))), (v 2 60, .inl (cI, 36, .inl (fun _ => 0))), (v 2 61, .inl (cI, 36, .inl (fun _ => 0))), (v 2 62, .inl (cI, 36, .inl (fun _ => 0))), (v 2 63, .inl (cI, 36, .inl (fun _ => 0))), (v 2 64, .inl (cI, 36, .inl (fun _ => 0))), (v 2 65, .inr (4, [.int 0, .int 0, .ref (v 2 66), .ref (v 2 67), .ref (v 2 68), .ref (v 2 69), .ref (v 2 70)])), (v 2 66, .inl (cI, 8, .inl (fun _ => 0))), (v 2 67, .inl (cI, 8, .inl (fun _ => 0))), (v 2 68, .inl (cI, 8, .inl (fun _ => 0))), (v 2 69, .inl (cI, 3, .inl (fun _ => 0))), (v 2 70, .inl (cI, 12, .inl (fun _ => 0))), (v 2 71, .inr (7, [.ref (v 2 72), .ref (v 2 77), .ref (v 2 88), .int 0, .int 0, .int 0, .int 0])), (v 2 72, .inr (6, [.int 0, .int 0, .ref (v 2 73), .ref (v 2 74), .ref (v 2 75), .ref (v 2 76)])), (v 2 73, .inl (cI, 20, .inl (fun _ => 0))), (v 2 74, .inl (cI, 20, .inl (fun _ => 0))), (v 2 75, .inl (cI, 20, .inl (fun _ => 0))), (v 2 76, .inl (cI, 20, .inl (fun _ => 0))), (v 2 77, .inr (1, [.int 0, .ref (v 2 78), .ref (v 2 79), .ref (v 2 80), .ref (v 2 81), .ref (v 2 82), .ref (v 2 83), .ref (v 2 84), .ref (v 2 85), .ref (v 2 86), .ref (v 2 87)])), (v 2 78, .inl (cI, 6, .inl (fun _ => 0))), (v 2 79, .inl (cI, 6, .inl (fun _ => 0))), (v 2 80, .inl (cI, 6, .inl (fun _ => 0))), (v 2 81, .inl (cZ, 6, .inl (fun _ => 0))), (v 2 82, .inl (cI, 6, .inl (fun _ => 0))), (v 2 83, .inl (cI, 36, .inl (fun _ => 0))), (v 2 84, .inl (cI, 36, .inl (fun _ => 0))), (v 2 85, .inl (cI, 36, .inl (fun _ => 0))), (v 2 86, .inl (cI, 36, .inl (fun _ => 0))), (v 2 87, .inl (cI, 36, .inl (fun _ => 0))), (v 2 88, .inr (4, [.int 0, .int 0, .ref (v 2 89), .ref (v 2 90), .ref (v 2 91), .ref (v 2 92), .ref (v 2 93)])), (v 2 89, .inl (cI, 8, .inl (fun _ => 0))), (v 2 90, .inl (cI, 8, .inl (fun _ => 0))), (v 2 91, .inl (cI, 8, .inl (fun _ => 0))), (v 2 92, .inl (cI, 3, .inl (fun _ => 0))), (v 2 93, .inl (cI, 12, .inl (fun _ => 0))), (v 2 94, .inr (7, [.ref (v 2 95), .ref (v 2 100), .ref (v 2 111), .int 0, .int 0, .int 0, .int 0])), (v 2 95, .inr (6, [.int 0, .int 0, .ref (v 2 96), .ref (v 2 97), .ref (v 2 98), .ref (v 2 99)])), (v 2 96, .inl (cI, 20, .inl (fun _ => 0))), (v 2 97, .inl (cI, 20, .inl (fun _ => 0))), (v 2 98, .inl (cI, 20, .inl (fun _ => 0))), (v 2 99, .inl (cI, 20, .inl (fun _ => 0))), (v 2 100, .inr (1, [.int 0, .ref (v 2 101), .ref (v 2 102), .ref (v 2 103), .ref (v 2 104), .ref (v 2 105), .ref (v 2 106), .ref (v 2 107), .ref (v 2 108), .ref (v 2 109), .ref (v 2 110)])), (v 2 101, .inl (cI, 6, .inl (fun _ => 0))), (v 2 102, .inl (cI, 6, .inl (fun _ => 0))), (v 2 103, .inl (cI, 6, .inl (fun _ => 0))), (v 2 104, .inl (cZ, 6, .inl (fun _ => 0))), (v 2 105, .inl (cI, 6, .inl (fun _ => 0))), (v 2 106, .inl (cI, 36, .inl (fun _ => 0))), (v 2 107, .inl (cI, 36, .inl (fun _ => 0))), (v 2 108, .inl (cI, 36, .inl (fun _ => 0))), (v 2 109, .inl (cI, 36, .inl (fun _ => 0))), (v 2 110, .inl (cI, 36, .inl (fun _ => 0))), (v 2 111, .inr (4, [.int 0, .int 0, .ref (v 2 112), .ref (v 2 113), .ref (v 2 114), .ref (v 2 115), .ref (v 2 116)])), (v 2 112, .inl (cI, 8, .inl (fun _ => 0))), (v 2 113, .inl (cI, 8, .inl (fun _ => 0))), (v 2 114, .inl (cI, 8, .inl (fun _ => 0))), (v 2 115, .inl (cI, 3, .inl (fun _ => 0))), (v 2 116, .inl (cI, 12, .inl (fun _ => 0))), (v 3 0, .inr (5, [.ref (v 3 1), .int 0, .int 0, .int 0, .int 0, .int 0, .int 0, .ref (v 3 2), .ref (v 3 3), .ref (v 3 4), .ref (v 3 5)])), (v 3 1, .inl (cI, 100, .inl (fun _ => 0))), (v 3 2, .inl (cI, 20, .inl (fun _ => 0))), (v 3 3, .inl (cI, 20, .inl (fun _ => 0))), (v 3 4, .inl (cI, 20, .inl (fun _ => 0))), (v 3 5, .inl (cZ, 20, .inl (fun _ => 0))), (v 4 0, .inr (2, [.ref (v 4 1), .ref (v 4 2)])), (v 4 1, .inl (cI, 6, .inl (fun _ => 0))), (v 4 2, .inl (cI, 6, .inl (fun _ => 0))), (v 5 0, .inr (9, [.ref (v 5 1), .ref (v 5 2), .ref (v 5 3)])), (v 5 1, .inl (cI, 10, .inl (fun _ => 0))), (v 5 2, .inl (cI, 10, .inl (fun _ => 0))), (v 5 3, .inl (cI, 10, .inl (fun _ => 0))), (v 6 0, .inr (8, [.int 0, .ref (v 6 1)])), (v 6 1, .inl (cI, 6, .inl (fun _ => 0))), (v 7 0, .inr (0, [.int 0, .ref (v 7 1), .ref (v 7 2)])), (v 7 1, .inl (cI, 8, .inl (fun _ => 0))), (v 7 2, .inl (cI, 8, .inl (fun _ => 0)))]
set_option maxHeartbeats 8000000 in
set_option maxRecDepth 100000 in
theorem ew_flat (cI cZ cS : ClassId) (h0 hm : Nat) (v : Nat → Nat → Nat) : ew_w10 cI cZ cS h0 v = ew_L cI cZ cS h0 hm v (fun j => some (v 2 (2 + 23 * j))) := by
  simp only [ew_w10, ew_w7, ew_w6, ew_w1, ew_w4, ew_w3, ew_w5, ew_w2, ew_w9, ew_w8, ew_w0, ew_L, List.cons_append, List.nil_append, Nat.reduceAdd]
abbrev ew_W (cI cZ cS : ClassId) (h0 hm : Nat) (v : Nat → Nat → Nat) : va_W := ew_L cI cZ cS h0 hm v (fun j => some (ew_ad h0 hm v (46 + 23 * (j : Int))))
theorem ew_c0 (cI cZ cS : ClassId) (h0 hm : Nat) (v : Nat → Nat → Nat) : (ew_W cI cZ cS h0 hm v)[1]? = some (v 0 0, .inr (7, [.ref (v 0 1), .ref (v 0 6), .ref (v 0 17), .int 0, .int 0, .int 0, .int 0])) := rfl
theorem ew_a0 (h0 hm : Nat) (v : Nat → Nat → Nat) : ew_ad h0 hm v (Int.ofNat 0) = v 0 0 := rfl
theorem ew_e0 (cI cZ cS : ClassId) (h0 hm : Nat) (v : Nat → Nat → Nat) (sc : Int → Int) : ev_e cI cZ cS (ew_ad h0 hm v) (ew_s0 sc) (Int.ofNat 0) = .inr (7, [.ref (v 0 1), .ref (v 0 6), .ref (v 0 17), .int 0, .int 0, .int 0, .int 0]) := rfl
theorem ew_c1 (cI cZ cS : ClassId) (h0 hm : Nat) (v : Nat → Nat → Nat) : (ew_W cI cZ cS h0 hm v)[2]? = some (v 0 1, .inr (6, [.int 0, .int 0, .ref (v 0 2), .ref (v 0 3), .ref (v 0 4), .ref (v 0 5)])) := rfl
theorem ew_a1 (h0 hm : Nat) (v : Nat → Nat → Nat) : ew_ad h0 hm v (Int.ofNat 1) = v 0 1 := rfl
theorem ew_e1 (cI cZ cS : ClassId) (h0 hm : Nat) (v : Nat → Nat → Nat) (sc : Int → Int) : ev_e cI cZ cS (ew_ad h0 hm v) (ew_s0 sc) (Int.ofNat 1) = .inr (6, [.int 0, .int 0, .ref (v 0 2), .ref (v 0 3), .ref (v 0 4), .ref (v 0 5)]) := rfl
theorem ew_c2 (cI cZ cS : ClassId) (h0 hm : Nat) (v : Nat → Nat → Nat) : (ew_W cI cZ cS h0 hm v)[3]? = some (v 0 2, .inl (cI, 20, .inl (fun _ => 0))) := rfl
theorem ew_a2 (h0 hm : Nat) (v : Nat → Nat → Nat) : ew_ad h0 hm v (Int.ofNat 2) = v 0 2 := rfl
theorem ew_e2 (cI cZ cS : ClassId) (h0 hm : Nat) (v : Nat → Nat → Nat) (sc : Int → Int) : ev_e cI cZ cS (ew_ad h0 hm v) (ew_s0 sc) (Int.ofNat 2) = .inl (cI, 20, .inl (fun _ => 0)) := rfl
theorem ew_c3 (cI cZ cS : ClassId) (h0 hm : Nat) (v : Nat → Nat → Nat) : (ew_W cI cZ cS h0 hm v)[4]? = some (v 0 3, .inl (cI, 20, .inl (fun _ => 0))) := rfl
theorem ew_a3 (h0 hm : Nat) (v : Nat → Nat → Nat) : ew_ad h0 hm v (Int.ofNat 3) = v 0 3 := rfl
theorem ew_e3 (cI cZ cS : ClassId) (h0 hm : Nat) (v : Nat → Nat → Nat) (sc : Int → Int) : ev_e cI cZ cS (ew_ad h0 hm v) (ew_s0 sc) (Int.ofNat 3) = .inl (cI, 20, .inl (fun _ => 0)) := rfl
theorem ew_c4 (cI cZ cS : ClassId) (h0 hm : Nat) (v : Nat → Nat → Nat) : (ew_W cI cZ cS h0 hm v)[5]? = some (v 0 4, .inl (cI, 20, .inl (fun _ => 0))) := rfl
theorem ew_a4 (h0 hm : Nat) (v : Nat → Nat → Nat) : ew_ad h0 hm v (Int.ofNat 4) = v 0 4 := rfl
theorem ew_e4 (cI cZ cS : ClassId) (h0 hm : Nat) (v : Nat → Nat → Nat) (sc : Int → Int) : ev_e cI cZ cS (ew_ad h0 hm v) (ew_s0 sc) (Int.ofNat 4) = .inl (cI, 20, .inl (fun _ => 0)) := rfl
theorem ew_c5 (cI cZ cS : ClassId) (h0 hm : Nat) (v : Nat → Nat → Nat) : (ew_W cI cZ cS h0 hm v)[6]? = some (v 0 5, .inl (cI, 20, .inl (fun _ => 0))) := rfl
theorem ew_a5 (h0 hm : Nat) (v : Nat → Nat → Nat) : ew_ad h0 hm v (Int.ofNat 5) = v 0 5 := rfl
theorem ew_e5 (cI cZ cS : ClassId) (h0 hm : Nat) (v : Nat → Nat → Nat) (sc : Int → Int) : ev_e cI cZ cS (ew_ad h0 hm v) (ew_s0 sc) (Int.ofNat 5) = .inl (cI, 20, .inl (fun _ => 0)) := rfl
theorem ew_c6 (cI cZ cS : ClassId) (h0 hm : Nat) (v : Nat → Nat → Nat) : (ew_W cI cZ cS h0 hm v)[7]? = some (v 0 6, .inr (1, [.int 0, .ref (v 0 7), .ref (v 0 8), .ref (v 0 9), .ref (v 0 10), .ref (v 0 11), .ref (v 0 12), .ref (v 0 13), .ref (v 0 14), .ref (v 0 15), .ref (v 0 16)])) := rfl
theorem ew_a6 (h0 hm : Nat) (v : Nat → Nat → Nat) : ew_ad h0 hm v (Int.ofNat 6) = v 0 6 := rfl
theorem ew_e6 (cI cZ cS : ClassId) (h0 hm : Nat) (v : Nat → Nat → Nat) (sc : Int → Int) : ev_e cI cZ cS (ew_ad h0 hm v) (ew_s0 sc) (Int.ofNat 6) = .inr (1, [.int 0, .ref (v 0 7), .ref (v 0 8), .ref (v 0 9), .ref (v 0 10), .ref (v 0 11), .ref (v 0 12), .ref (v 0 13), .ref (v 0 14), .ref (v 0 15), .ref (v 0 16)]) := rfl
theorem ew_c7 (cI cZ cS : ClassId) (h0 hm : Nat) (v : Nat → Nat → Nat) : (ew_W cI cZ cS h0 hm v)[8]? = some (v 0 7, .inl (cI, 6, .inl (fun _ => 0))) := rfl
theorem ew_a7 (h0 hm : Nat) (v : Nat → Nat → Nat) : ew_ad h0 hm v (Int.ofNat 7) = v 0 7 := rfl
theorem ew_e7 (cI cZ cS : ClassId) (h0 hm : Nat) (v : Nat → Nat → Nat) (sc : Int → Int) : ev_e cI cZ cS (ew_ad h0 hm v) (ew_s0 sc) (Int.ofNat 7) = .inl (cI, 6, .inl (fun _ => 0)) := rfl
theorem ew_c8 (cI cZ cS : ClassId) (h0 hm : Nat) (v : Nat → Nat → Nat) : (ew_W cI cZ cS h0 hm v)[9]? = some (v 0 8, .inl (cI, 6, .inl (fun _ => 0))) := rfl
theorem ew_a8 (h0 hm : Nat) (v : Nat → Nat → Nat) : ew_ad h0 hm v (Int.ofNat 8) = v 0 8 := rfl
theorem ew_e8 (cI cZ cS : ClassId) (h0 hm : Nat) (v : Nat → Nat → Nat) (sc : Int → Int) : ev_e cI cZ cS (ew_ad h0 hm v) (ew_s0 sc) (Int.ofNat 8) = .inl (cI, 6, .inl (fun _ => 0)) := rfl
theorem ew_c9 (cI cZ cS : ClassId) (h0 hm : Nat) (v : Nat → Nat → Nat) : (ew_W cI cZ cS h0 hm v)[10]? = some (v 0 9, .inl (cI, 6, .inl (fun _ => 0))) := rfl
theorem ew_a9 (h0 hm : Nat) (v : Nat → Nat → Nat) : ew_ad h0 hm v (Int.ofNat 9) = v 0 9 := rfl
theorem ew_e9 (cI cZ cS : ClassId) (h0 hm : Nat) (v : Nat → Nat → Nat) (sc : Int → Int) : ev_e cI cZ cS (ew_ad h0 hm v) (ew_s0 sc) (Int.ofNat 9) = .inl (cI, 6, .inl (fun _ => 0)) := rfl
theorem ew_c10 (cI cZ cS : ClassId) (h0 hm : Nat) (v : Nat → Nat → Nat) : (ew_W cI cZ cS h0 hm v)[11]? = some (v 0 10, .inl (cZ, 6, .inl (fun _ => 0))) := rfl
theorem ew_a10 (h0 hm : Nat) (v : Nat → Nat → Nat) : ew_ad h0 hm v (Int.ofNat 10) = v 0 10 := rfl
theorem ew_e10 (cI cZ cS : ClassId) (h0 hm : Nat) (v : Nat → Nat → Nat) (sc : Int → Int) : ev_e cI cZ cS (ew_ad h0 hm v) (ew_s0 sc) (Int.ofNat 10) = .inl (cZ, 6, .inl (fun _ => 0)) := rfl
theorem ew_c11 (cI cZ cS : ClassId) (h0 hm : Nat) (v : Nat → Nat → Nat) : (ew_W cI cZ cS h0 hm v)[12]? = some (v 0 11, .inl (cI, 6, .inl (fun _ => 0))) := rfl
theorem ew_a11 (h0 hm : Nat) (v : Nat → Nat → Nat) : ew_ad h0 hm v (Int.ofNat 11) = v 0 11 := rfl
theorem ew_e11 (cI cZ cS : ClassId) (h0 hm : Nat) (v : Nat → Nat → Nat) (sc : Int → Int) : ev_e cI cZ cS (ew_ad h0 hm v) (ew_s0 sc) (Int.ofNat 11) = .inl (cI, 6, .inl (fun _ => 0)) := rfl
theorem ew_c12 (cI cZ cS : ClassId) (h0 hm : Nat) (v : Nat → Nat → Nat) : (ew_W cI cZ cS h0 hm v)[13]? = some (v 0 12, .inl (cI, 36, .inl (fun _ => 0))) := rfl
theorem ew_a12 (h0 hm : Nat) (v : Nat → Nat → Nat) : ew_ad h0 hm v (Int.ofNat 12) = v 0 12 := rfl
theorem ew_e12 (cI cZ cS : ClassId) (h0 hm : Nat) (v : Nat → Nat → Nat) (sc : Int → Int) : ev_e cI cZ cS (ew_ad h0 hm v) (ew_s0 sc) (Int.ofNat 12) = .inl (cI, 36, .inl (fun _ => 0)) := rfl
theorem ew_c13 (cI cZ cS : ClassId) (h0 hm : Nat) (v : Nat → Nat → Nat) : (ew_W cI cZ cS h0 hm v)[14]? = some (v 0 13, .inl (cI, 36, .inl (fun _ => 0))) := rfl
theorem ew_a13 (h0 hm : Nat) (v : Nat → Nat → Nat) : ew_ad h0 hm v (Int.ofNat 13) = v 0 13 := rfl
theorem ew_e13 (cI cZ cS : ClassId) (h0 hm : Nat) (v : Nat → Nat → Nat) (sc : Int → Int) : ev_e cI cZ cS (ew_ad h0 hm v) (ew_s0 sc) (Int.ofNat 13) = .inl (cI, 36, .inl (fun _ => 0)) := rfl
theorem ew_c14 (cI cZ cS : ClassId) (h0 hm : Nat) (v : Nat → Nat → Nat) : (ew_W cI cZ cS h0 hm v)[15]? = some (v 0 14, .inl (cI, 36, .inl (fun _ => 0))) := rfl
theorem ew_a14 (h0 hm : Nat) (v : Nat → Nat → Nat) : ew_ad h0 hm v (Int.ofNat 14) = v 0 14 := rfl
theorem ew_e14 (cI cZ cS : ClassId) (h0 hm : Nat) (v : Nat → Nat → Nat) (sc : Int → Int) : ev_e cI cZ cS (ew_ad h0 hm v) (ew_s0 sc) (Int.ofNat 14) = .inl (cI, 36, .inl (fun _ => 0)) := rfl
theorem ew_c15 (cI cZ cS : ClassId) (h0 hm : Nat) (v : Nat → Nat → Nat) : (ew_W cI cZ cS h0 hm v)[16]? = some (v 0 15, .inl (cI, 36, .inl (fun _ => 0))) := rfl
theorem ew_a15 (h0 hm : Nat) (v : Nat → Nat → Nat) : ew_ad h0 hm v (Int.ofNat 15) = v 0 15 := rfl
theorem ew_e15 (cI cZ cS : ClassId) (h0 hm : Nat) (v : Nat → Nat → Nat) (sc : Int → Int) : ev_e cI cZ cS (ew_ad h0 hm v) (ew_s0 sc) (Int.ofNat 15) = .inl (cI, 36, .inl (fun _ => 0)) := rfl
theorem ew_c16 (cI cZ cS : ClassId) (h0 hm : Nat) (v : Nat → Nat → Nat) : (ew_W cI cZ cS h0 hm v)[17]? = some (v 0 16, .inl (cI, 36, .inl (fun _ => 0))) := rfl
theorem ew_a16 (h0 hm : Nat) (v : Nat → Nat → Nat) : ew_ad h0 hm v (Int.ofNat 16) = v 0 16 := rfl
theorem ew_e16 (cI cZ cS : ClassId) (h0 hm : Nat) (v : Nat → Nat → Nat) (sc : Int → Int) : ev_e cI cZ cS (ew_ad h0 hm v) (ew_s0 sc) (Int.ofNat 16) = .inl (cI, 36, .inl (fun _ => 0)) := rfl
theorem ew_c17 (cI cZ cS : ClassId) (h0 hm : Nat) (v : Nat → Nat → Nat) : (ew_W cI cZ cS h0 hm v)[18]? = some (v 0 17, .inr (4, [.int 0, .int 0, .ref (v 0 18), .ref (v 0 19), .ref (v 0 20), .ref (v 0 21), .ref (v 0 22)])) := rfl
theorem ew_a17 (h0 hm : Nat) (v : Nat → Nat → Nat) : ew_ad h0 hm v (Int.ofNat 17) = v 0 17 := rfl
theorem ew_e17 (cI cZ cS : ClassId) (h0 hm : Nat) (v : Nat → Nat → Nat) (sc : Int → Int) : ev_e cI cZ cS (ew_ad h0 hm v) (ew_s0 sc) (Int.ofNat 17) = .inr (4, [.int 0, .int 0, .ref (v 0 18), .ref (v 0 19), .ref (v 0 20), .ref (v 0 21), .ref (v 0 22)]) := rfl
theorem ew_c18 (cI cZ cS : ClassId) (h0 hm : Nat) (v : Nat → Nat → Nat) : (ew_W cI cZ cS h0 hm v)[19]? = some (v 0 18, .inl (cI, 8, .inl (fun _ => 0))) := rfl
theorem ew_a18 (h0 hm : Nat) (v : Nat → Nat → Nat) : ew_ad h0 hm v (Int.ofNat 18) = v 0 18 := rfl
theorem ew_e18 (cI cZ cS : ClassId) (h0 hm : Nat) (v : Nat → Nat → Nat) (sc : Int → Int) : ev_e cI cZ cS (ew_ad h0 hm v) (ew_s0 sc) (Int.ofNat 18) = .inl (cI, 8, .inl (fun _ => 0)) := rfl
theorem ew_c19 (cI cZ cS : ClassId) (h0 hm : Nat) (v : Nat → Nat → Nat) : (ew_W cI cZ cS h0 hm v)[20]? = some (v 0 19, .inl (cI, 8, .inl (fun _ => 0))) := rfl
theorem ew_a19 (h0 hm : Nat) (v : Nat → Nat → Nat) : ew_ad h0 hm v (Int.ofNat 19) = v 0 19 := rfl
theorem ew_e19 (cI cZ cS : ClassId) (h0 hm : Nat) (v : Nat → Nat → Nat) (sc : Int → Int) : ev_e cI cZ cS (ew_ad h0 hm v) (ew_s0 sc) (Int.ofNat 19) = .inl (cI, 8, .inl (fun _ => 0)) := rfl
theorem ew_c20 (cI cZ cS : ClassId) (h0 hm : Nat) (v : Nat → Nat → Nat) : (ew_W cI cZ cS h0 hm v)[21]? = some (v 0 20, .inl (cI, 8, .inl (fun _ => 0))) := rfl
theorem ew_a20 (h0 hm : Nat) (v : Nat → Nat → Nat) : ew_ad h0 hm v (Int.ofNat 20) = v 0 20 := rfl
theorem ew_e20 (cI cZ cS : ClassId) (h0 hm : Nat) (v : Nat → Nat → Nat) (sc : Int → Int) : ev_e cI cZ cS (ew_ad h0 hm v) (ew_s0 sc) (Int.ofNat 20) = .inl (cI, 8, .inl (fun _ => 0)) := rfl
theorem ew_c21 (cI cZ cS : ClassId) (h0 hm : Nat) (v : Nat → Nat → Nat) : (ew_W cI cZ cS h0 hm v)[22]? = some (v 0 21, .inl (cI, 3, .inl (fun _ => 0))) := rfl
theorem ew_a21 (h0 hm : Nat) (v : Nat → Nat → Nat) : ew_ad h0 hm v (Int.ofNat 21) = v 0 21 := rfl
theorem ew_e21 (cI cZ cS : ClassId) (h0 hm : Nat) (v : Nat → Nat → Nat) (sc : Int → Int) : ev_e cI cZ cS (ew_ad h0 hm v) (ew_s0 sc) (Int.ofNat 21) = .inl (cI, 3, .inl (fun _ => 0)) := rfl
theorem ew_c22 (cI cZ cS : ClassId) (h0 hm : Nat) (v : Nat → Nat → Nat) : (ew_W cI cZ cS h0 hm v)[23]? = some (v 0 22, .inl (cI, 12, .inl (fun _ => 0))) := rfl
theorem ew_a22 (h0 hm : Nat) (v : Nat → Nat → Nat) : ew_ad h0 hm v (Int.ofNat 22) = v 0 22 := rfl
theorem ew_e22 (cI cZ cS : ClassId) (h0 hm : Nat) (v : Nat → Nat → Nat) (sc : Int → Int) : ev_e cI cZ cS (ew_ad h0 hm v) (ew_s0 sc) (Int.ofNat 22) = .inl (cI, 12, .inl (fun _ => 0)) := rfl
theorem ew_c23 (cI cZ cS : ClassId) (h0 hm : Nat) (v : Nat → Nat → Nat) : (ew_W cI cZ cS h0 hm v)[24]? = some (v 1 0, .inr (7, [.ref (v 1 1), .ref (v 1 6), .ref (v 1 17), .int 0, .int 0, .int 0, .int 0])) := rfl
theorem ew_a23 (h0 hm : Nat) (v : Nat → Nat → Nat) : ew_ad h0 hm v (Int.ofNat 23) = v 1 0 := rfl
theorem ew_e23 (cI cZ cS : ClassId) (h0 hm : Nat) (v : Nat → Nat → Nat) (sc : Int → Int) : ev_e cI cZ cS (ew_ad h0 hm v) (ew_s0 sc) (Int.ofNat 23) = .inr (7, [.ref (v 1 1), .ref (v 1 6), .ref (v 1 17), .int 0, .int 0, .int 0, .int 0]) := rfl
theorem ew_c24 (cI cZ cS : ClassId) (h0 hm : Nat) (v : Nat → Nat → Nat) : (ew_W cI cZ cS h0 hm v)[25]? = some (v 1 1, .inr (6, [.int 0, .int 0, .ref (v 1 2), .ref (v 1 3), .ref (v 1 4), .ref (v 1 5)])) := rfl
theorem ew_a24 (h0 hm : Nat) (v : Nat → Nat → Nat) : ew_ad h0 hm v (Int.ofNat 24) = v 1 1 := rfl
theorem ew_e24 (cI cZ cS : ClassId) (h0 hm : Nat) (v : Nat → Nat → Nat) (sc : Int → Int) : ev_e cI cZ cS (ew_ad h0 hm v) (ew_s0 sc) (Int.ofNat 24) = .inr (6, [.int 0, .int 0, .ref (v 1 2), .ref (v 1 3), .ref (v 1 4), .ref (v 1 5)]) := rfl
theorem ew_c25 (cI cZ cS : ClassId) (h0 hm : Nat) (v : Nat → Nat → Nat) : (ew_W cI cZ cS h0 hm v)[26]? = some (v 1 2, .inl (cI, 20, .inl (fun _ => 0))) := rfl
theorem ew_a25 (h0 hm : Nat) (v : Nat → Nat → Nat) : ew_ad h0 hm v (Int.ofNat 25) = v 1 2 := rfl
theorem ew_e25 (cI cZ cS : ClassId) (h0 hm : Nat) (v : Nat → Nat → Nat) (sc : Int → Int) : ev_e cI cZ cS (ew_ad h0 hm v) (ew_s0 sc) (Int.ofNat 25) = .inl (cI, 20, .inl (fun _ => 0)) := rfl
theorem ew_c26 (cI cZ cS : ClassId) (h0 hm : Nat) (v : Nat → Nat → Nat) : (ew_W cI cZ cS h0 hm v)[27]? = some (v 1 3, .inl (cI, 20, .inl (fun _ => 0))) := rfl
theorem ew_a26 (h0 hm : Nat) (v : Nat → Nat → Nat) : ew_ad h0 hm v (Int.ofNat 26) = v 1 3 := rfl
theorem ew_e26 (cI cZ cS : ClassId) (h0 hm : Nat) (v : Nat → Nat → Nat) (sc : Int → Int) : ev_e cI cZ cS (ew_ad h0 hm v) (ew_s0 sc) (Int.ofNat 26) = .inl (cI, 20, .inl (fun _ => 0)) := rfl
theorem ew_c27 (cI cZ cS : ClassId) (h0 hm : Nat) (v : Nat → Nat → Nat) : (ew_W cI cZ cS h0 hm v)[28]? = some (v 1 4, .inl (cI, 20, .inl (fun _ => 0))) := rfl
theorem ew_a27 (h0 hm : Nat) (v : Nat → Nat → Nat) : ew_ad h0 hm v (Int.ofNat 27) = v 1 4 := rfl
theorem ew_e27 (cI cZ cS : ClassId) (h0 hm : Nat) (v : Nat → Nat → Nat) (sc : Int → Int) : ev_e cI cZ cS (ew_ad h0 hm v) (ew_s0 sc) (Int.ofNat 27) = .inl (cI, 20, .inl (fun _ => 0)) := rfl
theorem ew_c28 (cI cZ cS : ClassId) (h0 hm : Nat) (v : Nat → Nat → Nat) : (ew_W cI cZ cS h0 hm v)[29]? = some (v 1 5, .inl (cI, 20, .inl (fun _ => 0))) := rfl
theorem ew_a28 (h0 hm : Nat) (v : Nat → Nat → Nat) : ew_ad h0 hm v (Int.ofNat 28) = v 1 5 := rfl
theorem ew_e28 (cI cZ cS : ClassId) (h0 hm : Nat) (v : Nat → Nat → Nat) (sc : Int → Int) : ev_e cI cZ cS (ew_ad h0 hm v) (ew_s0 sc) (Int.ofNat 28) = .inl (cI, 20, .inl (fun _ => 0)) := rfl
theorem ew_c29 (cI cZ cS : ClassId) (h0 hm : Nat) (v : Nat → Nat → Nat) : (ew_W cI cZ cS h0 hm v)[30]? = some (v 1 6, .inr (1, [.int 0, .ref (v 1 7), .ref (v 1 8), .ref (v 1 9), .ref (v 1 10), .ref (v 1 11), .ref (v 1 12), .ref (v 1 13), .ref (v 1 14), .ref (v 1 15), .ref (v 1 16)])) := rfl
theorem ew_a29 (h0 hm : Nat) (v : Nat → Nat → Nat) : ew_ad h0 hm v (Int.ofNat 29) = v 1 6 := rfl
theorem ew_e29 (cI cZ cS : ClassId) (h0 hm : Nat) (v : Nat → Nat → Nat) (sc : Int → Int) : ev_e cI cZ cS (ew_ad h0 hm v) (ew_s0 sc) (Int.ofNat 29) = .inr (1, [.int 0, .ref (v 1 7), .ref (v 1 8), .ref (v 1 9), .ref (v 1 10), .ref (v 1 11), .ref (v 1 12), .ref (v 1 13), .ref (v 1 14), .ref (v 1 15), .ref (v 1 16)]) := rfl
theorem ew_c30 (cI cZ cS : ClassId) (h0 hm : Nat) (v : Nat → Nat → Nat) : (ew_W cI cZ cS h0 hm v)[31]? = some (v 1 7, .inl (cI, 6, .inl (fun _ => 0))) := rfl
theorem ew_a30 (h0 hm : Nat) (v : Nat → Nat → Nat) : ew_ad h0 hm v (Int.ofNat 30) = v 1 7 := rfl
theorem ew_e30 (cI cZ cS : ClassId) (h0 hm : Nat) (v : Nat → Nat → Nat) (sc : Int → Int) : ev_e cI cZ cS (ew_ad h0 hm v) (ew_s0 sc) (Int.ofNat 30) = .inl (cI, 6, .inl (fun _ => 0)) := rfl
theorem ew_c31 (cI cZ cS : ClassId) (h0 hm : Nat) (v : Nat → Nat → Nat) : (ew_W cI cZ cS h0 hm v)[32]? = some (v 1 8, .inl (cI, 6, .inl (fun _ => 0))) := rfl
theorem ew_a31 (h0 hm : Nat) (v : Nat → Nat → Nat) : ew_ad h0 hm v (Int.ofNat 31) = v 1 8 := rfl
theorem ew_e31 (cI cZ cS : ClassId) (h0 hm : Nat) (v : Nat → Nat → Nat) (sc : Int → Int) : ev_e cI cZ cS (ew_ad h0 hm v) (ew_s0 sc) (Int.ofNat 31) = .inl (cI, 6, .inl (fun _ => 0)) := rfl
theorem ew_c32 (cI cZ cS : ClassId) (h0 hm : Nat) (v : Nat → Nat → Nat) : (ew_W cI cZ cS h0 hm v)[33]? = some (v 1 9, .inl (cI, 6, .inl (fun _ => 0))) := rfl
theorem ew_a32 (h0 hm : Nat) (v : Nat → Nat → Nat) : ew_ad h0 hm v (Int.ofNat 32) = v 1 9 := rfl
theorem ew_e32 (cI cZ cS : ClassId) (h0 hm : Nat) (v : Nat → Nat → Nat) (sc : Int → Int) : ev_e cI cZ cS (ew_ad h0 hm v) (ew_s0 sc) (Int.ofNat 32) = .inl (cI, 6, .inl (fun _ => 0)) := rfl
theorem ew_c33 (cI cZ cS : ClassId) (h0 hm : Nat) (v : Nat → Nat → Nat) : (ew_W cI cZ cS h0 hm v)[34]? = some (v 1 10, .inl (cZ, 6, .inl (fun _ => 0))) := rfl
theorem ew_a33 (h0 hm : Nat) (v : Nat → Nat → Nat) : ew_ad h0 hm v (Int.ofNat 33) = v 1 10 := rfl
theorem ew_e33 (cI cZ cS : ClassId) (h0 hm : Nat) (v : Nat → Nat → Nat) (sc : Int → Int) : ev_e cI cZ cS (ew_ad h0 hm v) (ew_s0 sc) (Int.ofNat 33) = .inl (cZ, 6, .inl (fun _ => 0)) := rfl
theorem ew_c34 (cI cZ cS : ClassId) (h0 hm : Nat) (v : Nat → Nat → Nat) : (ew_W cI cZ cS h0 hm v)[35]? = some (v 1 11, .inl (cI, 6, .inl (fun _ => 0))) := rfl
theorem ew_a34 (h0 hm : Nat) (v : Nat → Nat → Nat) : ew_ad h0 hm v (Int.ofNat 34) = v 1 11 := rfl
theorem ew_e34 (cI cZ cS : ClassId) (h0 hm : Nat) (v : Nat → Nat → Nat) (sc : Int → Int) : ev_e cI cZ cS (ew_ad h0 hm v) (ew_s0 sc) (Int.ofNat 34) = .inl (cI, 6, .inl (fun _ => 0)) := rfl
theorem ew_c35 (cI cZ cS : ClassId) (h0 hm : Nat) (v : Nat → Nat → Nat) : (ew_W cI cZ cS h0 hm v)[36]? = some (v 1 12, .inl (cI, 36, .inl (fun _ => 0))) := rfl
theorem ew_a35 (h0 hm : Nat) (v : Nat → Nat → Nat) : ew_ad h0 hm v (Int.ofNat 35) = v 1 12 := rfl
theorem ew_e35 (cI cZ cS : ClassId) (h0 hm : Nat) (v : Nat → Nat → Nat) (sc : Int → Int) : ev_e cI cZ cS (ew_ad h0 hm v) (ew_s0 sc) (Int.ofNat 35) = .inl (cI, 36, .inl (fun _ => 0)) := rfl
theorem ew_c36 (cI cZ cS : ClassId) (h0 hm : Nat) (v : Nat → Nat → Nat) : (ew_W cI cZ cS h0 hm v)[37]? = some (v 1 13, .inl (cI, 36, .inl (fun _ => 0))) := rfl
theorem ew_a36 (h0 hm : Nat) (v : Nat → Nat → Nat) : ew_ad h0 hm v (Int.ofNat 36) = v 1 13 := rfl
theorem ew_e36 (cI cZ cS : ClassId) (h0 hm : Nat) (v : Nat → Nat → Nat) (sc : Int → Int) : ev_e cI cZ cS (ew_ad h0 hm v) (ew_s0 sc) (Int.ofNat 36) = .inl (cI, 36, .inl (fun _ => 0)) := rfl
theorem ew_c37 (cI cZ cS : ClassId) (h0 hm : Nat) (v : Nat → Nat → Nat) : (ew_W cI cZ cS h0 hm v)[38]? = some (v 1 14, .inl (cI, 36, .inl (fun _ => 0))) := rfl
theorem ew_a37 (h0 hm : Nat) (v : Nat → Nat → Nat) : ew_ad h0 hm v (Int.ofNat 37) = v 1 14 := rfl
theorem ew_e37 (cI cZ cS : ClassId) (h0 hm : Nat) (v : Nat → Nat → Nat) (sc : Int → Int) : ev_e cI cZ cS (ew_ad h0 hm v) (ew_s0 sc) (Int.ofNat 37) = .inl (cI, 36, .inl (fun _ => 0)) := rfl
theorem ew_c38 (cI cZ cS : ClassId) (h0 hm : Nat) (v : Nat → Nat → Nat) : (ew_W cI cZ cS h0 hm v)[39]? = some (v 1 15, .inl (cI, 36, .inl (fun _ => 0))) := rfl
theorem ew_a38 (h0 hm : Nat) (v : Nat → Nat → Nat) : ew_ad h0 hm v (Int.ofNat 38) = v 1 15 := rfl
theorem ew_e38 (cI cZ cS : ClassId) (h0 hm : Nat) (v : Nat → Nat → Nat) (sc : Int → Int) : ev_e cI cZ cS (ew_ad h0 hm v) (ew_s0 sc) (Int.ofNat 38) = .inl (cI, 36, .inl (fun _ => 0)) := rfl
theorem ew_c39 (cI cZ cS : ClassId) (h0 hm : Nat) (v : Nat → Nat → Nat) : (ew_W cI cZ cS h0 hm v)[40]? = some (v 1 16, .inl (cI, 36, .inl (fun _ => 0))) := rfl
theorem ew_a39 (h0 hm : Nat) (v : Nat → Nat → Nat) : ew_ad h0 hm v (Int.ofNat 39) = v 1 16 := rfl
theorem ew_e39 (cI cZ cS : ClassId) (h0 hm : Nat) (v : Nat → Nat → Nat) (sc : Int → Int) : ev_e cI cZ cS (ew_ad h0 hm v) (ew_s0 sc) (Int.ofNat 39) = .inl (cI, 36, .inl (fun _ => 0)) := rfl
theorem ew_c40 (cI cZ cS : ClassId) (h0 hm : Nat) (v : Nat → Nat → Nat) : (ew_W cI cZ cS h0 hm v)[41]? = some (v 1 17, .inr (4, [.int 0, .int 0, .ref (v 1 18), .ref (v 1 19), .ref (v 1 20), .ref (v 1 21), .ref (v 1 22)])) := rfl
theorem ew_a40 (h0 hm : Nat) (v : Nat → Nat → Nat) : ew_ad h0 hm v (Int.ofNat 40) = v 1 17 := rfl
theorem ew_e40 (cI cZ cS : ClassId) (h0 hm : Nat) (v : Nat → Nat → Nat) (sc : Int → Int) : ev_e cI cZ cS (ew_ad h0 hm v) (ew_s0 sc) (Int.ofNat 40) = .inr (4, [.int 0, .int 0, .ref (v 1 18), .ref (v 1 19), .ref (v 1 20), .ref (v 1 21), .ref (v 1 22)]) := rfl
theorem ew_c41 (cI cZ cS : ClassId) (h0 hm : Nat) (v : Nat → Nat → Nat) : (ew_W cI cZ cS h0 hm v)[42]? = some (v 1 18, .inl (cI, 8, .inl (fun _ => 0))) := rfl
theorem ew_a41 (h0 hm : Nat) (v : Nat → Nat → Nat) : ew_ad h0 hm v (Int.ofNat 41) = v 1 18 := rfl
theorem ew_e41 (cI cZ cS : ClassId) (h0 hm : Nat) (v : Nat → Nat → Nat) (sc : Int → Int) : ev_e cI cZ cS (ew_ad h0 hm v) (ew_s0 sc) (Int.ofNat 41) = .inl (cI, 8, .inl (fun _ => 0)) := rfl
theorem ew_c42 (cI cZ cS : ClassId) (h0 hm : Nat) (v : Nat → Nat → Nat) : (ew_W cI cZ cS h0 hm v)[43]? = some (v 1 19, .inl (cI, 8, .inl (fun _ => 0))) := rfl
theorem ew_a42 (h0 hm : Nat) (v : Nat → Nat → Nat) : ew_ad h0 hm v (Int.ofNat 42) = v 1 19 := rfl
theorem ew_e42 (cI cZ cS : ClassId) (h0 hm : Nat) (v : Nat → Nat → Nat) (sc : Int → Int) : ev_e cI cZ cS (ew_ad h0 hm v) (ew_s0 sc) (Int.ofNat 42) = .inl (cI, 8, .inl (fun _ => 0)) := rfl
theorem ew_c43 (cI cZ cS : ClassId) (h0 hm : Nat) (v : Nat → Nat → Nat) : (ew_W cI cZ cS h0 hm v)[44]? = some (v 1 20, .inl (cI, 8, .inl (fun _ => 0))) := rfl
theorem ew_a43 (h0 hm : Nat) (v : Nat → Nat → Nat) : ew_ad h0 hm v (Int.ofNat 43) = v 1 20 := rfl
theorem ew_e43 (cI cZ cS : ClassId) (h0 hm : Nat) (v : Nat → Nat → Nat) (sc : Int → Int) : ev_e cI cZ cS (ew_ad h0 hm v) (ew_s0 sc) (Int.ofNat 43) = .inl (cI, 8, .inl (fun _ => 0)) := rfl
theorem ew_c44 (cI cZ cS : ClassId) (h0 hm : Nat) (v : Nat → Nat → Nat) : (ew_W cI cZ cS h0 hm v)[45]? = some (v 1 21, .inl (cI, 3, .inl (fun _ => 0))) := rfl
theorem ew_a44 (h0 hm : Nat) (v : Nat → Nat → Nat) : ew_ad h0 hm v (Int.ofNat 44) = v 1 21 := rfl
theorem ew_e44 (cI cZ cS : ClassId) (h0 hm : Nat) (v : Nat → Nat → Nat) (sc : Int → Int) : ev_e cI cZ cS (ew_ad h0 hm v) (ew_s0 sc) (Int.ofNat 44) = .inl (cI, 3, .inl (fun _ => 0)) := rfl
theorem ew_c45 (cI cZ cS : ClassId) (h0 hm : Nat) (v : Nat → Nat → Nat) : (ew_W cI cZ cS h0 hm v)[46]? = some (v 1 22, .inl (cI, 12, .inl (fun _ => 0))) := rfl
theorem ew_a45 (h0 hm : Nat) (v : Nat → Nat → Nat) : ew_ad h0 hm v (Int.ofNat 45) = v 1 22 := rfl
theorem ew_e45 (cI cZ cS : ClassId) (h0 hm : Nat) (v : Nat → Nat → Nat) (sc : Int → Int) : ev_e cI cZ cS (ew_ad h0 hm v) (ew_s0 sc) (Int.ofNat 45) = .inl (cI, 12, .inl (fun _ => 0)) := rfl
theorem ew_c46 (cI cZ cS : ClassId) (h0 hm : Nat) (v : Nat → Nat → Nat) : (ew_W cI cZ cS h0 hm v)[49]? = some (v 2 2, .inr (7, [.ref (v 2 3), .ref (v 2 8), .ref (v 2 19), .int 0, .int 0, .int 0, .int 0])) := rfl
theorem ew_a46 (h0 hm : Nat) (v : Nat → Nat → Nat) : ew_ad h0 hm v (Int.ofNat 46) = v 2 2 := rfl
theorem ew_e46 (cI cZ cS : ClassId) (h0 hm : Nat) (v : Nat → Nat → Nat) (sc : Int → Int) : ev_e cI cZ cS (ew_ad h0 hm v) (ew_s0 sc) (Int.ofNat 46) = .inr (7, [.ref (v 2 3), .ref (v 2 8), .ref (v 2 19), .int 0, .int 0, .int 0, .int 0]) := rfl
theorem ew_c47 (cI cZ cS : ClassId) (h0 hm : Nat) (v : Nat → Nat → Nat) : (ew_W cI cZ cS h0 hm v)[50]? = some (v 2 3, .inr (6, [.int 0, .int 0, .ref (v 2 4), .ref (v 2 5), .ref (v 2 6), .ref (v 2 7)])) := rfl
theorem ew_a47 (h0 hm : Nat) (v : Nat → Nat → Nat) : ew_ad h0 hm v (Int.ofNat 47) = v 2 3 := rfl
theorem ew_e47 (cI cZ cS : ClassId) (h0 hm : Nat) (v : Nat → Nat → Nat) (sc : Int → Int) : ev_e cI cZ cS (ew_ad h0 hm v) (ew_s0 sc) (Int.ofNat 47) = .inr (6, [.int 0, .int 0, .ref (v 2 4), .ref (v 2 5), .ref (v 2 6), .ref (v 2 7)]) := rfl
theorem ew_c48 (cI cZ cS : ClassId) (h0 hm : Nat) (v : Nat → Nat → Nat) : (ew_W cI cZ cS h0 hm v)[51]? = some (v 2 4, .inl (cI, 20, .inl (fun _ => 0))) := rfl
theorem ew_a48 (h0 hm : Nat) (v : Nat → Nat → Nat) : ew_ad h0 hm v (Int.ofNat 48) = v 2 4 := rfl
theorem ew_e48 (cI cZ cS : ClassId) (h0 hm : Nat) (v : Nat → Nat → Nat) (sc : Int → Int) : ev_e cI cZ cS (ew_ad h0 hm v) (ew_s0 sc) (Int.ofNat 48) = .inl (cI, 20, .inl (fun _ => 0)) := rfl
theorem ew_c49 (cI cZ cS : ClassId) (h0 hm : Nat) (v : Nat → Nat → Nat) : (ew_W cI cZ cS h0 hm v)[52]? = some (v 2 5, .inl (cI, 20, .inl (fun _ => 0))) := rfl
theorem ew_a49 (h0 hm : Nat) (v : Nat → Nat → Nat) : ew_ad h0 hm v (Int.ofNat 49) = v 2 5 := rfl
theorem ew_e49 (cI cZ cS : ClassId) (h0 hm : Nat) (v : Nat → Nat → Nat) (sc : Int → Int) : ev_e cI cZ cS (ew_ad h0 hm v) (ew_s0 sc) (Int.ofNat 49) = .inl (cI, 20, .inl (fun _ => 0)) := rfl
theorem ew_c50 (cI cZ cS : ClassId) (h0 hm : Nat) (v : Nat → Nat → Nat) : (ew_W cI cZ cS h0 hm v)[53]? = some (v 2 6, .inl (cI, 20, .inl (fun _ => 0))) := rfl
theorem ew_a50 (h0 hm : Nat) (v : Nat → Nat → Nat) : ew_ad h0 hm v (Int.ofNat 50) = v 2 6 := rfl
theorem ew_e50 (cI cZ cS : ClassId) (h0 hm : Nat) (v : Nat → Nat → Nat) (sc : Int → Int) : ev_e cI cZ cS (ew_ad h0 hm v) (ew_s0 sc) (Int.ofNat 50) = .inl (cI, 20, .inl (fun _ => 0)) := rfl
theorem ew_c51 (cI cZ cS : ClassId) (h0 hm : Nat) (v : Nat → Nat → Nat) : (ew_W cI cZ cS h0 hm v)[54]? = some (v 2 7, .inl (cI, 20, .inl (fun _ => 0))) := rfl
theorem ew_a51 (h0 hm : Nat) (v : Nat → Nat → Nat) : ew_ad h0 hm v (Int.ofNat 51) = v 2 7 := rfl
theorem ew_e51 (cI cZ cS : ClassId) (h0 hm : Nat) (v : Nat → Nat → Nat) (sc : Int → Int) : ev_e cI cZ cS (ew_ad h0 hm v) (ew_s0 sc) (Int.ofNat 51) = .inl (cI, 20, .inl (fun _ => 0)) := rfl
theorem ew_c52 (cI cZ cS : ClassId) (h0 hm : Nat) (v : Nat → Nat → Nat) : (ew_W cI cZ cS h0 hm v)[55]? = some (v 2 8, .inr (1, [.int 0, .ref (v 2 9), .ref (v 2 10), .ref (v 2 11), .ref (v 2 12), .ref (v 2 13), .ref (v 2 14), .ref (v 2 15), .ref (v 2 16), .ref (v 2 17), .ref (v 2 18)])) := rfl
theorem ew_a52 (h0 hm : Nat) (v : Nat → Nat → Nat) : ew_ad h0 hm v (Int.ofNat 52) = v 2 8 := rfl
theorem ew_e52 (cI cZ cS : ClassId) (h0 hm : Nat) (v : Nat → Nat → Nat) (sc : Int → Int) : ev_e cI cZ cS (ew_ad h0 hm v) (ew_s0 sc) (Int.ofNat 52) = .inr (1, [.int 0, .ref (v 2 9), .ref (v 2 10), .ref (v 2 11), .ref (v 2 12), .ref (v 2 13), .ref (v 2 14), .ref (v 2 15), .ref (v 2 16), .ref (v 2 17), .ref (v 2 18)]) := rfl
theorem ew_c53 (cI cZ cS : ClassId) (h0 hm : Nat) (v : Nat → Nat → Nat) : (ew_W cI cZ cS h0 hm v)[56]? = some (v 2 9, .inl (cI, 6, .inl (fun _ => 0))) := rfl
theorem ew_a53 (h0 hm : Nat) (v : Nat → Nat → Nat) : ew_ad h0 hm v (Int.ofNat 53) = v 2 9 := rfl
theorem ew_e53 (cI cZ cS : ClassId) (h0 hm : Nat) (v : Nat → Nat → Nat) (sc : Int → Int) : ev_e cI cZ cS (ew_ad h0 hm v) (ew_s0 sc) (Int.ofNat 53) = .inl (cI, 6, .inl (fun _ => 0)) := rfl
theorem ew_c54 (cI cZ cS : ClassId) (h0 hm : Nat) (v : Nat → Nat → Nat) : (ew_W cI cZ cS h0 hm v)[57]? = some (v 2 10, .inl (cI, 6, .inl (fun _ => 0))) := rfl
theorem ew_a54 (h0 hm : Nat) (v : Nat → Nat → Nat) : ew_ad h0 hm v (Int.ofNat 54) = v 2 10 := rfl
theorem ew_e54 (cI cZ cS : ClassId) (h0 hm : Nat) (v : Nat → Nat → Nat) (sc : Int → Int) : ev_e cI cZ cS (ew_ad h0 hm v) (ew_s0 sc) (Int.ofNat 54) = .inl (cI, 6, .inl (fun _ => 0)) := rfl
theorem ew_c55 (cI cZ cS : ClassId) (h0 hm : Nat) (v : Nat → Nat → Nat) : (ew_W cI cZ cS h0 hm v)[58]? = some (v 2 11, .inl (cI, 6, .inl (fun _ => 0))) := rfl
theorem ew_a55 (h0 hm : Nat) (v : Nat → Nat → Nat) : ew_ad h0 hm v (Int.ofNat 55) = v 2 11 := rfl
theorem ew_e55 (cI cZ cS : ClassId) (h0 hm : Nat) (v : Nat → Nat → Nat) (sc : Int → Int) : ev_e cI cZ cS (ew_ad h0 hm v) (ew_s0 sc) (Int.ofNat 55) = .inl (cI, 6, .inl (fun _ => 0)) := rfl
theorem ew_c56 (cI cZ cS : ClassId) (h0 hm : Nat) (v : Nat → Nat → Nat) : (ew_W cI cZ cS h0 hm v)[59]? = some (v 2 12, .inl (cZ, 6, .inl (fun _ => 0))) := rfl
theorem ew_a56 (h0 hm : Nat) (v : Nat → Nat → Nat) : ew_ad h0 hm v (Int.ofNat 56) = v 2 12 := rfl
theorem ew_e56 (cI cZ cS : ClassId) (h0 hm : Nat) (v : Nat → Nat → Nat) (sc : Int → Int) : ev_e cI cZ cS (ew_ad h0 hm v) (ew_s0 sc) (Int.ofNat 56) = .inl (cZ, 6, .inl (fun _ => 0)) := rfl
theorem ew_c57 (cI cZ cS : ClassId) (h0 hm : Nat) (v : Nat → Nat → Nat) : (ew_W cI cZ cS h0 hm v)[60]? = some (v 2 13, .inl (cI, 6, .inl (fun _ => 0))) := rfl
theorem ew_a57 (h0 hm : Nat) (v : Nat → Nat → Nat) : ew_ad h0 hm v (Int.ofNat 57) = v 2 13 := rfl
theorem ew_e57 (cI cZ cS : ClassId) (h0 hm : Nat) (v : Nat → Nat → Nat) (sc : Int → Int) : ev_e cI cZ cS (ew_ad h0 hm v) (ew_s0 sc) (Int.ofNat 57) = .inl (cI, 6, .inl (fun _ => 0)) := rfl
theorem ew_c58 (cI cZ cS : ClassId) (h0 hm : Nat) (v : Nat → Nat → Nat) : (ew_W cI cZ cS h0 hm v)[61]? = some (v 2 14, .inl (cI, 36, .inl (fun _ => 0))) := rfl
theorem ew_a58 (h0 hm : Nat) (v : Nat → Nat → Nat) : ew_ad h0 hm v (Int.ofNat 58) = v 2 14 := rfl
theorem ew_e58 (cI cZ cS : ClassId) (h0 hm : Nat) (v : Nat → Nat → Nat) (sc : Int → Int) : ev_e cI cZ cS (ew_ad h0 hm v) (ew_s0 sc) (Int.ofNat 58) = .inl (cI, 36, .inl (fun _ => 0)) := rfl
theorem ew_c59 (cI cZ cS : ClassId) (h0 hm : Nat) (v : Nat → Nat → Nat) : (ew_W cI cZ cS h0 hm v)[62]? = some (v 2 15, .inl (cI, 36, .inl (fun _ => 0))) := rfl
theorem ew_a59 (h0 hm : Nat) (v : Nat → Nat → Nat) : ew_ad h0 hm v (Int.ofNat 59) = v 2 15 := rfl
theorem ew_e59 (cI cZ cS : ClassId) (h0 hm : Nat) (v : Nat → Nat → Nat) (sc : Int → Int) : ev_e cI cZ cS (ew_ad h0 hm v) (ew_s0 sc) (Int.ofNat 59) = .inl (cI, 36, .inl (fun _ => 0)) := rfl
theorem ew_c60 (cI cZ cS : ClassId) (h0 hm : Nat) (v : Nat → Nat → Nat) : (ew_W cI cZ cS h0 hm v)[63]? = some (v 2 16, .inl (cI, 36, .inl (fun _ => 0))) := rfl
theorem ew_a60 (h0 hm : Nat) (v : Nat → Nat → Nat) : ew_ad h0 hm v (Int.ofNat 60) = v 2 16 := rfl
theorem ew_e60 (cI cZ cS : ClassId) (h0 hm : Nat) (v : Nat → Nat → Nat) (sc : Int → Int) : ev_e cI cZ cS (ew_ad h0 hm v) (ew_s0 sc) (Int.ofNat 60) = .inl (cI, 36, .inl (fun _ => 0)) := rfl
theorem ew_c61 (cI cZ cS : ClassId) (h0 hm : Nat) (v : Nat → Nat → Nat) : (ew_W cI cZ cS h0 hm v)[64]? = some (v 2 17, .inl (cI, 36, .inl (fun _ => 0))) := rfl
theorem ew_a61 (h0 hm : Nat) (v : Nat → Nat → Nat) : ew_ad h0 hm v (Int.ofNat 61) = v 2 17 := rfl
theorem ew_e61 (cI cZ cS : ClassId) (h0 hm : Nat) (v : Nat → Nat → Nat) (sc : Int → Int) : ev_e cI cZ cS (ew_ad h0 hm v) (ew_s0 sc) (Int.ofNat 61) = .inl (cI, 36, .inl (fun _ => 0)) := rfl
theorem ew_c62 (cI cZ cS : ClassId) (h0 hm : Nat) (v : Nat → Nat → Nat) : (ew_W cI cZ cS h0 hm v)[65]? = some (v 2 18, .inl (cI, 36, .inl (fun _ => 0))) := rfl
theorem ew_a62 (h0 hm : Nat) (v : Nat → Nat → Nat) : ew_ad h0 hm v (Int.ofNat 62) = v 2 18 := rfl
theorem ew_e62 (cI cZ cS : ClassId) (h0 hm : Nat) (v : Nat → Nat → Nat) (sc : Int → Int) : ev_e cI cZ cS (ew_ad h0 hm v) (ew_s0 sc) (Int.ofNat 62) = .inl (cI, 36, .inl (fun _ => 0)) := rfl
theorem ew_c63 (cI cZ cS : ClassId) (h0 hm : Nat) (v : Nat → Nat → Nat) : (ew_W cI cZ cS h0 hm v)[66]? = some (v 2 19, .inr (4, [.int 0, .int 0, .ref (v 2 20), .ref (v 2 21), .ref (v 2 22), .ref (v 2 23), .ref (v 2 24)])) := rfl
theorem ew_a63 (h0 hm : Nat) (v : Nat → Nat → Nat) : ew_ad h0 hm v (Int.ofNat 63) = v 2 19 := rfl
theorem ew_e63 (cI cZ cS : ClassId) (h0 hm : Nat) (v : Nat → Nat → Nat) (sc : Int → Int) : ev_e cI cZ cS (ew_ad h0 hm v) (ew_s0 sc) (Int.ofNat 63) = .inr (4, [.int 0, .int 0, .ref (v 2 20), .ref (v 2 21), .ref (v 2 22), .ref (v 2 23), .ref (v 2 24)]) := rfl
theorem ew_c64 (cI cZ cS : ClassId) (h0 hm : Nat) (v : Nat → Nat → Nat) : (ew_W cI cZ cS h0 hm v)[67]? = some (v 2 20, .inl (cI, 8, .inl (fun _ => 0))) := rfl
theorem ew_a64 (h0 hm : Nat) (v : Nat → Nat → Nat) : ew_ad h0 hm v (Int.ofNat 64) = v 2 20 := rfl
theorem ew_e64 (cI cZ cS : ClassId) (h0 hm : Nat) (v : Nat → Nat → Nat) (sc : Int → Int) : ev_e cI cZ cS (ew_ad h0 hm v) (ew_s0 sc) (Int.ofNat 64) = .inl (cI, 8, .inl (fun _ => 0)) := rfl
theorem ew_c65 (cI cZ cS : ClassId) (h0 hm : Nat) (v : Nat → Nat → Nat) : (ew_W cI cZ cS h0 hm v)[68]? = some (v 2 21, .inl (cI, 8, .inl (fun _ => 0))) := rfl
theorem ew_a65 (h0 hm : Nat) (v : Nat → Nat → Nat) : ew_ad h0 hm v (Int.ofNat 65) = v 2 21 := rfl
theorem ew_e65 (cI cZ cS : ClassId) (h0 hm : Nat) (v : Nat → Nat → Nat) (sc : Int → Int) : ev_e cI cZ cS (ew_ad h0 hm v) (ew_s0 sc) (Int.ofNat 65) = .inl (cI, 8, .inl (fun _ => 0)) := rfl
theorem ew_c66 (cI cZ cS : ClassId) (h0 hm : Nat) (v : Nat → Nat → Nat) : (ew_W cI cZ cS h0 hm v)[69]? = some (v 2 22, .inl (cI, 8, .inl (fun _ => 0))) := rfl
theorem ew_a66 (h0 hm : Nat) (v : Nat → Nat → Nat) : ew_ad h0 hm v (Int.ofNat 66) = v 2 22 := rfl
theorem ew_e66 (cI cZ cS : ClassId) (h0 hm : Nat) (v : Nat → Nat → Nat) (sc : Int → Int) : ev_e cI cZ cS (ew_ad h0 hm v) (ew_s0 sc) (Int.ofNat 66) = .inl (cI, 8, .inl (fun _ => 0)) := rfl
theorem ew_c67 (cI cZ cS : ClassId) (h0 hm : Nat) (v : Nat → Nat → Nat) : (ew_W cI cZ cS h0 hm v)[70]? = some (v 2 23, .inl (cI, 3, .inl (fun _ => 0))) := rfl
theorem ew_a67 (h0 hm : Nat) (v : Nat → Nat → Nat) : ew_ad h0 hm v (Int.ofNat 67) = v 2 23 := rfl
theorem ew_e67 (cI cZ cS : ClassId) (h0 hm : Nat) (v : Nat → Nat → Nat) (sc : Int → Int) : ev_e cI cZ cS (ew_ad h0 hm v) (ew_s0 sc) (Int.ofNat 67) = .inl (cI, 3, .inl (fun _ => 0)) := rfl
theorem ew_c68 (cI cZ cS : ClassId) (h0 hm : Nat) (v : Nat → Nat → Nat) : (ew_W cI cZ cS h0 hm v)[71]? = some (v 2 24, .inl (cI, 12, .inl (fun _ => 0))) := rfl
theorem ew_a68 (h0 hm : Nat) (v : Nat → Nat → Nat) : ew_ad h0 hm v (Int.ofNat 68) = v 2 24 := rfl
theorem ew_e68 (cI cZ cS : ClassId) (h0 hm : Nat) (v : Nat → Nat → Nat) (sc : Int → Int) : ev_e cI cZ cS (ew_ad h0 hm v) (ew_s0 sc) (Int.ofNat 68) = .inl (cI, 12, .inl (fun _ => 0)) := rfl
theorem ew_c69 (cI cZ cS : ClassId) (h0 hm : Nat) (v : Nat → Nat → Nat) : (ew_W cI cZ cS h0 hm v)[72]? = some (v 2 25, .inr (7, [.ref (v 2 26), .ref (v 2 31), .ref (v 2 42), .int 0, .int 0, .int 0, .int 0])) := rfl
theorem ew_a69 (h0 hm : Nat) (v : Nat → Nat → Nat) : ew_ad h0 hm v (Int.ofNat 69) = v 2 25 := rfl
theorem ew_e69 (cI cZ cS : ClassId) (h0 hm : Nat) (v : Nat → Nat → Nat) (sc : Int → Int) : ev_e cI cZ cS (ew_ad h0 hm v) (ew_s0 sc) (Int.ofNat 69) = .inr (7, [.ref (v 2 26), .ref (v 2 31), .ref (v 2 42), .int 0, .int 0, .int 0, .int 0]) := rfl
theorem ew_c70 (cI cZ cS : ClassId) (h0 hm : Nat) (v : Nat → Nat → Nat) : (ew_W cI cZ cS h0 hm v)[73]? = some (v 2 26, .inr (6, [.int 0, .int 0, .ref (v 2 27), .ref (v 2 28), .ref (v 2 29), .ref (v 2 30)])) := rfl
theorem ew_a70 (h0 hm : Nat) (v : Nat → Nat → Nat) : ew_ad h0 hm v (Int.ofNat 70) = v 2 26 := rfl
theorem ew_e70 (cI cZ cS : ClassId) (h0 hm : Nat) (v : Nat → Nat → Nat) (sc : Int → Int) : ev_e cI cZ cS (ew_ad h0 hm v) (ew_s0 sc) (Int.ofNat 70) = .inr (6, [.int 0, .int 0, .ref (v 2 27), .ref (v 2 28), .ref (v 2 29), .ref (v 2 30)]) := rfl
theorem ew_c71 (cI cZ cS : ClassId) (h0 hm : Nat) (v : Nat → Nat → Nat) : (ew_W cI cZ cS h0 hm v)[74]? = some (v 2 27, .inl (cI, 20, .inl (fun _ => 0))) := rfl
theorem ew_a71 (h0 hm : Nat) (v : Nat → Nat → Nat) : ew_ad h0 hm v (Int.ofNat 71) = v 2 27 := rfl
theorem ew_e71 (cI cZ cS : ClassId) (h0 hm : Nat) (v : Nat → Nat → Nat) (sc : Int → Int) : ev_e cI cZ cS (ew_ad h0 hm v) (ew_s0 sc) (Int.ofNat 71) = .inl (cI, 20, .inl (fun _ => 0)) := rfl
theorem ew_c72 (cI cZ cS : ClassId) (h0 hm : Nat) (v : Nat → Nat → Nat) : (ew_W cI cZ cS h0 hm v)[75]? = some (v 2 28, .inl (cI, 20, .inl (fun _ => 0))) := rfl
theorem ew_a72 (h0 hm : Nat) (v : Nat → Nat → Nat) : ew_ad h0 hm v (Int.ofNat 72) = v 2 28 := rfl
theorem ew_e72 (cI cZ cS : ClassId) (h0 hm : Nat) (v : Nat → Nat → Nat) (sc : Int → Int) : ev_e cI cZ cS (ew_ad h0 hm v) (ew_s0 sc) (Int.ofNat 72) = .inl (cI, 20, .inl (fun _ => 0)) := rfl
theorem ew_c73 (cI cZ cS : ClassId) (h0 hm : Nat) (v : Nat → Nat → Nat) : (ew_W cI cZ cS h0 hm v)[76]? = some (v 2 29, .inl (cI, 20, .inl (fun _ => 0))) := rfl
theorem ew_a73 (h0 hm : Nat) (v : Nat → Nat → Nat) : ew_ad h0 hm v (Int.ofNat 73) = v 2 29 := rfl
theorem ew_e73 (cI cZ cS : ClassId) (h0 hm : Nat) (v : Nat → Nat → Nat) (sc : Int → Int) : ev_e cI cZ cS (ew_ad h0 hm v) (ew_s0 sc) (Int.ofNat 73) = .inl (cI, 20, .inl (fun _ => 0)) := rfl
theorem ew_c74 (cI cZ cS : ClassId) (h0 hm : Nat) (v : Nat → Nat → Nat) : (ew_W cI cZ cS h0 hm v)[77]? = some (v 2 30, .inl (cI, 20, .inl (fun _ => 0))) := rfl
theorem ew_a74 (h0 hm : Nat) (v : Nat → Nat → Nat) : ew_ad h0 hm v (Int.ofNat 74) = v 2 30 := rfl
theorem ew_e74 (cI cZ cS : ClassId) (h0 hm : Nat) (v : Nat → Nat → Nat) (sc : Int → Int) : ev_e cI cZ cS (ew_ad h0 hm v) (ew_s0 sc) (Int.ofNat 74) = .inl (cI, 20, .inl (fun _ => 0)) := rfl
theorem ew_c75 (cI cZ cS : ClassId) (h0 hm : Nat) (v : Nat → Nat → Nat) : (ew_W cI cZ cS h0 hm v)[78]? = some (v 2 31, .inr (1, [.int 0, .ref (v 2 32), .ref (v 2 33), .ref (v 2 34), .ref (v 2 35), .ref (v 2 36), .ref (v 2 37), .ref (v 2 38), .ref (v 2 39), .ref (v 2 40), .ref (v 2 41)])) := rfl
theorem ew_a75 (h0 hm : Nat) (v : Nat → Nat → Nat) : ew_ad h0 hm v (Int.ofNat 75) = v 2 31 := rfl
theorem ew_e75 (cI cZ cS : ClassId) (h0 hm : Nat) (v : Nat → Nat → Nat) (sc : Int → Int) : ev_e cI cZ cS (ew_ad h0 hm v) (ew_s0 sc) (Int.ofNat 75) = .inr (1, [.int 0, .ref (v 2 32), .ref (v 2 33), .ref (v 2 34), .ref (v 2 35), .ref (v 2 36), .ref (v 2 37), .ref (v 2 38), .ref (v 2 39), .ref (v 2 40), .ref (v 2 41)]) := rfl
theorem ew_c76 (cI cZ cS : ClassId) (h0 hm : Nat) (v : Nat → Nat → Nat) : (ew_W cI cZ cS h0 hm v)[79]? = some (v 2 32, .inl (cI, 6, .inl (fun _ => 0))) := rfl
theorem ew_a76 (h0 hm : Nat) (v : Nat → Nat → Nat) : ew_ad h0 hm v (Int.ofNat 76) = v 2 32 := rfl
theorem ew_e76 (cI cZ cS : ClassId) (h0 hm : Nat) (v : Nat → Nat → Nat) (sc : Int → Int) : ev_e cI cZ cS (ew_ad h0 hm v) (ew_s0 sc) (Int.ofNat 76) = .inl (cI, 6, .inl (fun _ => 0)) := rfl
theorem ew_c77 (cI cZ cS : ClassId) (h0 hm : Nat) (v : Nat → Nat → Nat) : (ew_W cI cZ cS h0 hm v)[80]? = some (v 2 33, .inl (cI, 6, .inl (fun _ => 0))) := rfl
theorem ew_a77 (h0 hm : Nat) (v : Nat → Nat → Nat) : ew_ad h0 hm v (Int.ofNat 77) = v 2 33 := rfl
theorem ew_e77 (cI cZ cS : ClassId) (h0 hm : Nat) (v : Nat → Nat → Nat) (sc : Int → Int) : ev_e cI cZ cS (ew_ad h0 hm v) (ew_s0 sc) (Int.ofNat 77) = .inl (cI, 6, .inl (fun _ => 0)) := rfl
theorem ew_c78 (cI cZ cS : ClassId) (h0 hm : Nat) (v : Nat → Nat → Nat) : (ew_W cI cZ cS h0 hm v)[81]? = some (v 2 34, .inl (cI, 6, .inl (fun _ => 0))) := rfl
theorem ew_a78 (h0 hm : Nat) (v : Nat → Nat → Nat) : ew_ad h0 hm v (Int.ofNat 78) = v 2 34 := rfl
theorem ew_e78 (cI cZ cS : ClassId) (h0 hm : Nat) (v : Nat → Nat → Nat) (sc : Int → Int) : ev_e cI cZ cS (ew_ad h0 hm v) (ew_s0 sc) (Int.ofNat 78) = .inl (cI, 6, .inl (fun _ => 0)) := rfl
theorem ew_c79 (cI cZ cS : ClassId) (h0 hm : Nat) (v : Nat → Nat → Nat) : (ew_W cI cZ cS h0 hm v)[82]? = some (v 2 35, .inl (cZ, 6, .inl (fun _ => 0))) := rfl
theorem ew_a79 (h0 hm : Nat) (v : Nat → Nat → Nat) : ew_ad h0 hm v (Int.ofNat 79) = v 2 35 := rfl
theorem ew_e79 (cI cZ cS : ClassId) (h0 hm : Nat) (v : Nat → Nat → Nat) (sc : Int → Int) : ev_e cI cZ cS (ew_ad h0 hm v) (ew_s0 sc) (Int.ofNat 79) = .inl (cZ, 6, .inl (fun _ => 0)) := rfl
theorem ew_c80 (cI cZ cS : ClassId) (h0 hm : Nat) (v : Nat → Nat → Nat) : (ew_W cI cZ cS h0 hm v)[83]? = some (v 2 36, .inl (cI, 6, .inl (fun _ => 0))) := rfl
theorem ew_a80 (h0 hm : Nat) (v : Nat → Nat → Nat) : ew_ad h0 hm v (Int.ofNat 80) = v 2 36 := rfl
theorem ew_e80 (cI cZ cS : ClassId) (h0 hm : Nat) (v : Nat → Nat → Nat) (sc : Int → Int) : ev_e cI cZ cS (ew_ad h0 hm v) (ew_s0 sc) (Int.ofNat 80) = .inl (cI, 6, .inl (fun _ => 0)) := rfl
theorem ew_c81 (cI cZ cS : ClassId) (h0 hm : Nat) (v : Nat → Nat → Nat) : (ew_W cI cZ cS h0 hm v)[84]? = some (v 2 37, .inl (cI, 36, .inl (fun _ => 0))) := rfl
theorem ew_a81 (h0 hm : Nat) (v : Nat → Nat → Nat) : ew_ad h0 hm v (Int.ofNat 81) = v 2 37 := rfl
theorem ew_e81 (cI cZ cS : ClassId) (h0 hm : Nat) (v : Nat → Nat → Nat) (sc : Int → Int) : ev_e cI cZ cS (ew_ad h0 hm v) (ew_s0 sc) (Int.ofNat 81) = .inl (cI, 36, .inl (fun _ => 0)) := rfl
theorem ew_c82 (cI cZ cS : ClassId) (h0 hm : Nat) (v : Nat → Nat → Nat) : (ew_W cI cZ cS h0 hm v)[85]? = some (v 2 38, .inl (cI, 36, .inl (fun _ => 0))) := rfl
theorem ew_a82 (h0 hm : Nat) (v : Nat → Nat → Nat) : ew_ad h0 hm v (Int.ofNat 82) = v 2 38 := rfl
theorem ew_e82 (cI cZ cS : ClassId) (h0 hm : Nat) (v : Nat → Nat → Nat) (sc : Int → Int) : ev_e cI cZ cS (ew_ad h0 hm v) (ew_s0 sc) (Int.ofNat 82) = .inl (cI, 36, .inl (fun _ => 0)) := rfl
theorem ew_c83 (cI cZ cS : ClassId) (h0 hm : Nat) (v : Nat → Nat → Nat) : (ew_W cI cZ cS h0 hm v)[86]? = some (v 2 39, .inl (cI, 36, .inl (fun _ => 0))) := rfl
theorem ew_a83 (h0 hm : Nat) (v : Nat → Nat → Nat) : ew_ad h0 hm v (Int.ofNat 83) = v 2 39 := rfl
theorem ew_e83 (cI cZ cS : ClassId) (h0 hm : Nat) (v : Nat → Nat → Nat) (sc : Int → Int) : ev_e cI cZ cS (ew_ad h0 hm v) (ew_s0 sc) (Int.ofNat 83) = .inl (cI, 36, .inl (fun _ => 0)) := rfl
theorem ew_c84 (cI cZ cS : ClassId) (h0 hm : Nat) (v : Nat → Nat → Nat) : (ew_W cI cZ cS h0 hm v)[87]? = some (v 2 40, .inl (cI, 36, .inl (fun _ => 0))) := rfl
theorem ew_a84 (h0 hm : Nat) (v : Nat → Nat → Nat) : ew_ad h0 hm v (Int.ofNat 84) = v 2 40 := rfl
theorem ew_e84 (cI cZ cS : ClassId) (h0 hm : Nat) (v : Nat → Nat → Nat) (sc : Int → Int) : ev_e cI cZ cS (ew_ad h0 hm v) (ew_s0 sc) (Int.ofNat 84) = .inl (cI, 36, .inl (fun _ => 0)) := rfl
theorem ew_c85 (cI cZ cS : ClassId) (h0 hm : Nat) (v : Nat → Nat → Nat) : (ew_W cI cZ cS h0 hm v)[88]? = some (v 2 41, .inl (cI, 36, .inl (fun _ => 0))) := rfl
theorem ew_a85 (h0 hm : Nat) (v : Nat → Nat → Nat) : ew_ad h0 hm v (Int.ofNat 85) = v 2 41 := rfl
theorem ew_e85 (cI cZ cS : ClassId) (h0 hm : Nat) (v : Nat → Nat → Nat) (sc : Int → Int) : ev_e cI cZ cS (ew_ad h0 hm v) (ew_s0 sc) (Int.ofNat 85) = .inl (cI, 36, .inl (fun _ => 0)) := rfl
theorem ew_c86 (cI cZ cS : ClassId) (h0 hm : Nat) (v : Nat → Nat → Nat) : (ew_W cI cZ cS h0 hm v)[89]? = some (v 2 42, .inr (4, [.int 0, .int 0, .ref (v 2 43), .ref (v 2 44), .ref (v 2 45), .ref (v 2 46), .ref (v 2 47)])) := rfl
theorem ew_a86 (h0 hm : Nat) (v : Nat → Nat → Nat) : ew_ad h0 hm v (Int.ofNat 86) = v 2 42 := rfl
theorem ew_e86 (cI cZ cS : ClassId) (h0 hm : Nat) (v : Nat → Nat → Nat) (sc : Int → Int) : ev_e cI cZ cS (ew_ad h0 hm v) (ew_s0 sc) (Int.ofNat 86) = .inr (4, [.int 0, .int 0, .ref (v 2 43), .ref (v 2 44), .ref (v 2 45), .ref (v 2 46), .ref (v 2 47)]) := rfl
theorem ew_c87 (cI cZ cS : ClassId) (h0 hm : Nat) (v : Nat → Nat → Nat) : (ew_W cI cZ cS h0 hm v)[90]? = some (v 2 43, .inl (cI, 8, .inl (fun _ => 0))) := rfl
theorem ew_a87 (h0 hm : Nat) (v : Nat → Nat → Nat) : ew_ad h0 hm v (Int.ofNat 87) = v 2 43 := rfl
theorem ew_e87 (cI cZ cS : ClassId) (h0 hm : Nat) (v : Nat → Nat → Nat) (sc : Int → Int) : ev_e cI cZ cS (ew_ad h0 hm v) (ew_s0 sc) (Int.ofNat 87) = .inl (cI, 8, .inl (fun _ => 0)) := rfl
theorem ew_c88 (cI cZ cS : ClassId) (h0 hm : Nat) (v : Nat → Nat → Nat) : (ew_W cI cZ cS h0 hm v)[91]? = some (v 2 44, .inl (cI, 8, .inl (fun _ => 0))) := rfl
theorem ew_a88 (h0 hm : Nat) (v : Nat → Nat → Nat) : ew_ad h0 hm v (Int.ofNat 88) = v 2 44 := rfl
theorem ew_e88 (cI cZ cS : ClassId) (h0 hm : Nat) (v : Nat → Nat → Nat) (sc : Int → Int) : ev_e cI cZ cS (ew_ad h0 hm v) (ew_s0 sc) (Int.ofNat 88) = .inl (cI, 8, .inl (fun _ => 0)) := rfl
theorem ew_c89 (cI cZ cS : ClassId) (h0 hm : Nat) (v : Nat → Nat → Nat) : (ew_W cI cZ cS h0 hm v)[92]? = some (v 2 45, .inl (cI, 8, .inl (fun _ => 0))) := rfl
theorem ew_a89 (h0 hm : Nat) (v : Nat → Nat → Nat) : ew_ad h0 hm v (Int.ofNat 89) = v 2 45 := rfl
theorem ew_e89 (cI cZ cS : ClassId) (h0 hm : Nat) (v : Nat → Nat → Nat) (sc : Int → Int) : ev_e cI cZ cS (ew_ad h0 hm v) (ew_s0 sc) (Int.ofNat 89) = .inl (cI, 8, .inl (fun _ => 0)) := rfl
theorem ew_c90 (cI cZ cS : ClassId) (h0 hm : Nat) (v : Nat → Nat → Nat) : (ew_W cI cZ cS h0 hm v)[93]? = some (v 2 46, .inl (cI, 3, .inl (fun _ => 0))) := rfl
theorem ew_a90 (h0 hm : Nat) (v : Nat → Nat → Nat) : ew_ad h0 hm v (Int.ofNat 90) = v 2 46 := rfl
theorem ew_e90 (cI cZ cS : ClassId) (h0 hm : Nat) (v : Nat → Nat → Nat) (sc : Int → Int) : ev_e cI cZ cS (ew_ad h0 hm v) (ew_s0 sc) (Int.ofNat 90) = .inl (cI, 3, .inl (fun _ => 0)) := rfl
theorem ew_c91 (cI cZ cS : ClassId) (h0 hm : Nat) (v : Nat → Nat → Nat) : (ew_W cI cZ cS h0 hm v)[94]? = some (v 2 47, .inl (cI, 12, .inl (fun _ => 0))) := rfl
theorem ew_a91 (h0 hm : Nat) (v : Nat → Nat → Nat) : ew_ad h0 hm v (Int.ofNat 91) = v 2 47 := rfl
theorem ew_e91 (cI cZ cS : ClassId) (h0 hm : Nat) (v : Nat → Nat → Nat) (sc : Int → Int) : ev_e cI cZ cS (ew_ad h0 hm v) (ew_s0 sc) (Int.ofNat 91) = .inl (cI, 12, .inl (fun _ => 0)) := rfl
theorem ew_c92 (cI cZ cS : ClassId) (h0 hm : Nat) (v : Nat → Nat → Nat) : (ew_W cI cZ cS h0 hm v)[95]? = some (v 2 48, .inr (7, [.ref (v 2 49), .ref (v 2 54), .ref (v 2 65), .int 0, .int 0, .int 0, .int 0])) := rfl
theorem ew_a92 (h0 hm : Nat) (v : Nat → Nat → Nat) : ew_ad h0 hm v (Int.ofNat 92) = v 2 48 := rfl
theorem ew_e92 (cI cZ cS : ClassId) (h0 hm : Nat) (v : Nat → Nat → Nat) (sc : Int → Int) : ev_e cI cZ cS (ew_ad h0 hm v) (ew_s0 sc) (Int.ofNat 92) = .inr (7, [.ref (v 2 49), .ref (v 2 54), .ref (v 2 65), .int 0, .int 0, .int 0, .int 0]) := rfl
theorem ew_c93 (cI cZ cS : ClassId) (h0 hm : Nat) (v : Nat → Nat → Nat) : (ew_W cI cZ cS h0 hm v)[96]? = some (v 2 49, .inr (6, [.int 0, .int 0, .ref (v 2 50), .ref (v 2 51), .ref (v 2 52), .ref (v 2 53)])) := rfl
theorem ew_a93 (h0 hm : Nat) (v : Nat → Nat → Nat) : ew_ad h0 hm v (Int.ofNat 93) = v 2 49 := rfl
theorem ew_e93 (cI cZ cS : ClassId) (h0 hm : Nat) (v : Nat → Nat → Nat) (sc : Int → Int) : ev_e cI cZ cS (ew_ad h0 hm v) (ew_s0 sc) (Int.ofNat 93) = .inr (6, [.int 0, .int 0, .ref (v 2 50), .ref (v 2 51), .ref (v 2 52), .ref (v 2 53)]) := rfl
theorem ew_c94 (cI cZ cS : ClassId) (h0 hm : Nat) (v : Nat → Nat → Nat) : (ew_W cI cZ cS h0 hm v)[97]? = some (v 2 50, .inl (cI, 20, .inl (fun _ => 0))) := rfl
theorem ew_a94 (h0 hm : Nat) (v : Nat → Nat → Nat) : ew_ad h0 hm v (Int.ofNat 94) = v 2 50 := rfl
theorem ew_e94 (cI cZ cS : ClassId) (h0 hm : Nat) (v : Nat → Nat → Nat) (sc : Int → Int) : ev_e cI cZ cS (ew_ad h0 hm v) (ew_s0 sc) (Int.ofNat 94) = .inl (cI, 20, .inl (fun _ => 0)) := rfl
theorem ew_c95 (cI cZ cS : ClassId) (h0 hm : Nat) (v : Nat → Nat → Nat) : (ew_W cI cZ cS h0 hm v)[98]? = some (v 2 51, .inl (cI, 20, .inl (fun _ => 0))) := rfl
theorem ew_a95 (h0 hm : Nat) (v : Nat → Nat → Nat) : ew_ad h0 hm v (Int.ofNat 95) = v 2 51 := rfl
theorem ew_e95 (cI cZ cS : ClassId) (h0 hm : Nat) (v : Nat → Nat → Nat) (sc : Int → Int) : ev_e cI cZ cS (ew_ad h0 hm v) (ew_s0 sc) (Int.ofNat 95) = .inl (cI, 20, .inl (fun _ => 0)) := rfl
theorem ew_c96 (cI cZ cS : ClassId) (h0 hm : Nat) (v : Nat → Nat → Nat) : (ew_W cI cZ cS h0 hm v)[99]? = some (v 2 52, .inl (cI, 20, .inl (fun _ => 0))) := rfl
theorem ew_a96 (h0 hm : Nat) (v : Nat → Nat → Nat) : ew_ad h0 hm v (Int.ofNat 96) = v 2 52 := rfl
theorem ew_e96 (cI cZ cS : ClassId) (h0 hm : Nat) (v : Nat → Nat → Nat) (sc : Int → Int) : ev_e cI cZ cS (ew_ad h0 hm v) (ew_s0 sc) (Int.ofNat 96) = .inl (cI, 20, .inl (fun _ => 0)) := rfl
theorem ew_c97 (cI cZ cS : ClassId) (h0 hm : Nat) (v : Nat → Nat → Nat) : (ew_W cI cZ cS h0 hm v)[100]? = some (v 2 53, .inl (cI, 20, .inl (fun _ => 0))) := rfl
theorem ew_a97 (h0 hm : Nat) (v : Nat → Nat → Nat) : ew_ad h0 hm v (Int.ofNat 97) = v 2 53 := rfl
theorem ew_e97 (cI cZ cS : ClassId) (h0 hm : Nat) (v : Nat → Nat → Nat) (sc : Int → Int) : ev_e cI cZ cS (ew_ad h0 hm v) (ew_s0 sc) (Int.ofNat 97) = .inl (cI, 20, .inl (fun _ => 0)) := rfl
theorem ew_c98 (cI cZ cS : ClassId) (h0 hm : Nat) (v : Nat → Nat → Nat) : (ew_W cI cZ cS h0 hm v)[101]? = some (v 2 54, .inr (1, [.int 0, .ref (v 2 55), .ref (v 2 56), .ref (v 2 57), .ref (v 2 58), .ref (v 2 59), .ref (v 2 60), .ref (v 2 61), .ref (v 2 62), .ref (v 2 63), .ref (v 2 64)])) := rfl
theorem ew_a98 (h0 hm : Nat) (v : Nat → Nat → Nat) : ew_ad h0 hm v (Int.ofNat 98) = v 2 54 := rfl
theorem ew_e98 (cI cZ cS : ClassId) (h0 hm : Nat) (v : Nat → Nat → Nat) (sc : Int → Int) : ev_e cI cZ cS (ew_ad h0 hm v) (ew_s0 sc) (Int.ofNat 98) = .inr (1, [.int 0, .ref (v 2 55), .ref (v 2 56), .ref (v 2 57), .ref (v 2 58), .ref (v 2 59), .ref (v 2 60), .ref (v 2 61), .ref (v 2 62), .ref (v 2 63), .ref (v 2 64)]) := rfl
theorem ew_c99 (cI cZ cS : ClassId) (h0 hm : Nat) (v : Nat → Nat → Nat) : (ew_W cI cZ cS h0 hm v)[102]? = some (v 2 55, .inl (cI, 6, .inl (fun _ => 0))) := rfl
theorem ew_a99 (h0 hm : Nat) (v : Nat → Nat → Nat) : ew_ad h0 hm v (Int.ofNat 99) = v 2 55 := rfl
theorem ew_e99 (cI cZ cS : ClassId) (h0 hm : Nat) (v : Nat → Nat → Nat) (sc : Int → Int) : ev_e cI cZ cS (ew_ad h0 hm v) (ew_s0 sc) (Int.ofNat 99) = .inl (cI, 6, .inl (fun _ => 0)) := rfl
theorem ew_c100 (cI cZ cS : ClassId) (h0 hm : Nat) (v : Nat → Nat → Nat) : (ew_W cI cZ cS h0 hm v)[103]? = some (v 2 56, .inl (cI, 6, .inl (fun _ => 0))) := rfl
theorem ew_a100 (h0 hm : Nat) (v : Nat → Nat → Nat) : ew_ad h0 hm v (Int.ofNat 100) = v 2 56 := rfl
theorem ew_e100 (cI cZ cS : ClassId) (h0 hm : Nat) (v : Nat → Nat → Nat) (sc : Int → Int) : ev_e cI cZ cS (ew_ad h0 hm v) (ew_s0 sc) (Int.ofNat 100) = .inl (cI, 6, .inl (fun _ => 0)) := rfl
theorem ew_c101 (cI cZ cS : ClassId) (h0 hm : Nat) (v : Nat → Nat → Nat) : (ew_W cI cZ cS h0 hm v)[104]? = some (v 2 57, .inl (cI, 6, .inl (fun _ => 0))) := rfl
theorem ew_a101 (h0 hm : Nat) (v : Nat → Nat → Nat) : ew_ad h0 hm v (Int.ofNat 101) = v 2 57 := rfl
theorem ew_e101 (cI cZ cS : ClassId) (h0 hm : Nat) (v : Nat → Nat → Nat) (sc : Int → Int) : ev_e cI cZ cS (ew_ad h0 hm v) (ew_s0 sc) (Int.ofNat 101) = .inl (cI, 6, .inl (fun _ => 0)) := rfl
theorem ew_c102 (cI cZ cS : ClassId) (h0 hm : Nat) (v : Nat → Nat → Nat) : (ew_W cI cZ cS h0 hm v)[105]? = some (v 2 58, .inl (cZ, 6, .inl (fun _ => 0))) := rfl
theorem ew_a102 (h0 hm : Nat) (v : Nat → Nat → Nat) : ew_ad h0 hm v (Int.ofNat 102) = v 2 58 := rfl
theorem ew_e102 (cI cZ cS : ClassId) (h0 hm : Nat) (v : Nat → Nat → Nat) (sc : Int → Int) : ev_e cI cZ cS (ew_ad h0 hm v) (ew_s0 sc) (Int.ofNat 102) = .inl (cZ, 6, .inl (fun _ => 0)) := rfl
theorem ew_c103 (cI cZ cS : ClassId) (h0 hm : Nat) (v : Nat → Nat → Nat) : (ew_W cI cZ cS h0 hm v)[106]? = some (v 2 59, .inl (cI, 6, .inl (fun _ => 0))) := rfl
theorem ew_a103 (h0 hm : Nat) (v : Nat → Nat → Nat) : ew_ad h0 hm v (Int.ofNat 103) = v 2 59 := rfl
theorem ew_e103 (cI cZ cS : ClassId) (h0 hm : Nat) (v : Nat → Nat → Nat) (sc : Int → Int) : ev_e cI cZ cS (ew_ad h0 hm v) (ew_s0 sc) (Int.ofNat 103) = .inl (cI, 6, .inl (fun _ => 0)) := rfl
theorem ew_c104 (cI cZ cS : ClassId) (h0 hm : Nat) (v : Nat → Nat → Nat) : (ew_W cI cZ cS h0 hm v)[107]? = some (v 2 60, .inl (cI, 36, .inl (fun _ => 0))) := rfl
theorem ew_a104 (h0 hm : Nat) (v : Nat → Nat → Nat) : ew_ad h0 hm v (Int.ofNat 104) = v 2 60 := rfl
theorem ew_e104 (cI cZ cS : ClassId) (h0 hm : Nat) (v : Nat → Nat → Nat) (sc : Int → Int) : ev_e cI cZ cS (ew_ad h0 hm v) (ew_s0 sc) (Int.ofNat 104) = .inl (cI, 36, .inl (fun _ => 0)) := rfl
theorem ew_c105 (cI cZ cS : ClassId) (h0 hm : Nat) (v : Nat → Nat → Nat) : (ew_W cI cZ cS h0 hm v)[108]? = some (v 2 61, .inl (cI, 36, .inl (fun _ => 0))) := rfl
theorem ew_a105 (h0 hm : Nat) (v : Nat → Nat → Nat) : ew_ad h0 hm v (Int.ofNat 105) = v 2 61 := rfl
theorem ew_e105 (cI cZ cS : ClassId) (h0 hm : Nat) (v : Nat → Nat → Nat) (sc : Int → Int) : ev_e cI cZ cS (ew_ad h0 hm v) (ew_s0 sc) (Int.ofNat 105) = .inl (cI, 36, .inl (fun _ => 0)) := rfl
theorem ew_c106 (cI cZ cS : ClassId) (h0 hm : Nat) (v : Nat → Nat → Nat) : (ew_W cI cZ cS h0 hm v)[109]? = some (v 2 62, .inl (cI, 36, .inl (fun _ => 0))) := rfl
theorem ew_a106 (h0 hm : Nat) (v : Nat → Nat → Nat) : ew_ad h0 hm v (Int.ofNat 106) = v 2 62 := rfl
theorem ew_e106 (cI cZ cS : ClassId) (h0 hm : Nat) (v : Nat → Nat → Nat) (sc : Int → Int) : ev_e cI cZ cS (ew_ad h0 hm v) (ew_s0 sc) (Int.ofNat 106) = .inl (cI, 36, .inl (fun _ => 0)) := rfl
theorem ew_c107 (cI cZ cS : ClassId) (h0 hm : Nat) (v : Nat → Nat → Nat) : (ew_W cI cZ cS h0 hm v)[110]? = some (v 2 63, .inl (cI, 36, .inl (fun _ => 0))) := rfl
theorem ew_a107 (h0 hm : Nat) (v : Nat → Nat → Nat) : ew_ad h0 hm v (Int.ofNat 107) = v 2 63 := rfl
theorem ew_e107 (cI cZ cS : ClassId) (h0 hm : Nat) (v : Nat → Nat → Nat) (sc : Int → Int) : ev_e cI cZ cS (ew_ad h0 hm v) (ew_s0 sc) (Int.ofNat 107) = .inl (cI, 36, .inl (fun _ => 0)) := rfl
theorem ew_c108 (cI cZ cS : ClassId) (h0 hm : Nat) (v : Nat → Nat → Nat) : (ew_W cI cZ cS h0 hm v)[111]? = some (v 2 64, .inl (cI, 36, .inl (fun _ => 0))) := rfl
theorem ew_a108 (h0 hm : Nat) (v : Nat → Nat → Nat) : ew_ad h0 hm v (Int.ofNat 108) = v 2 64 := rfl
theorem ew_e108 (cI cZ cS : ClassId) (h0 hm : Nat) (v : Nat → Nat → Nat) (sc : Int → Int) : ev_e cI cZ cS (ew_ad h0 hm v) (ew_s0 sc) (Int.ofNat 108) = .inl (cI, 36, .inl (fun _ => 0)) := rfl
theorem ew_c109 (cI cZ cS : ClassId) (h0 hm : Nat) (v : Nat → Nat → Nat) : (ew_W cI cZ cS h0 hm v)[112]? = some (v 2 65, .inr (4, [.int 0, .int 0, .ref (v 2 66), .ref (v 2 67), .ref (v 2 68), .ref (v 2 69), .ref (v 2 70)])) := rfl
theorem ew_a109 (h0 hm : Nat) (v : Nat → Nat → Nat) : ew_ad h0 hm v (Int.ofNat 109) = v 2 65 := rfl
theorem ew_e109 (cI cZ cS : ClassId) (h0 hm : Nat) (v : Nat → Nat → Nat) (sc : Int → Int) : ev_e cI cZ cS (ew_ad h0 hm v) (ew_s0 sc) (Int.ofNat 109) = .inr (4, [.int 0, .int 0, .ref (v 2 66), .ref (v 2 67), .ref (v 2 68), .ref (v 2 69), .ref (v 2 70)]) := rfl
theorem ew_c110 (cI cZ cS : ClassId) (h0 hm : Nat) (v : Nat → Nat → Nat) : (ew_W cI cZ cS h0 hm v)[113]? = some (v 2 66, .inl (cI, 8, .inl (fun _ => 0))) := rfl
theorem ew_a110 (h0 hm : Nat) (v : Nat → Nat → Nat) : ew_ad h0 hm v (Int.ofNat 110) = v 2 66 := rfl
theorem ew_e110 (cI cZ cS : ClassId) (h0 hm : Nat) (v : Nat → Nat → Nat) (sc : Int → Int) : ev_e cI cZ cS (ew_ad h0 hm v) (ew_s0 sc) (Int.ofNat 110) = .inl (cI, 8, .inl (fun _ => 0)) := rfl
theorem ew_c111 (cI cZ cS : ClassId) (h0 hm : Nat) (v : Nat → Nat → Nat) : (ew_W cI cZ cS h0 hm v)[114]? = some (v 2 67, .inl (cI, 8, .inl (fun _ => 0))) := rfl
theorem ew_a111 (h0 hm : Nat) (v : Nat → Nat → Nat) : ew_ad h0 hm v (Int.ofNat 111) = v 2 67 := rfl
theorem ew_e111 (cI cZ cS : ClassId) (h0 hm : Nat) (v : Nat → Nat → Nat) (sc : Int → Int) : ev_e cI cZ cS (ew_ad h0 hm v) (ew_s0 sc) (Int.ofNat 111) = .inl (cI, 8, .inl (fun _ => 0)) := rfl
theorem ew_c112 (cI cZ cS : ClassId) (h0 hm : Nat) (v : Nat → Nat → Nat) : (ew_W cI cZ cS h0 hm v)[115]? = some (v 2 68, .inl (cI, 8, .inl (fun _ => 0))) := rfl
theorem ew_a112 (h0 hm : Nat) (v : Nat → Nat → Nat) : ew_ad h0 hm v (Int.ofNat 112) = v 2 68 := rfl
theorem ew_e112 (cI cZ cS : ClassId) (h0 hm : Nat) (v : Nat → Nat → Nat) (sc : Int → Int) : ev_e cI cZ cS (ew_ad h0 hm v) (ew_s0 sc) (Int.ofNat 112) = .inl (cI, 8, .inl (fun _ => 0)) := rfl
theorem ew_c113 (cI cZ cS : ClassId) (h0 hm : Nat) (v : Nat → Nat → Nat) : (ew_W cI cZ cS h0 hm v)[116]? = some (v 2 69, .inl (cI, 3, .inl (fun _ => 0))) := rfl
theorem ew_a113 (h0 hm : Nat) (v : Nat → Nat → Nat) : ew_ad h0 hm v (Int.ofNat 113) = v 2 69 := rfl
theorem ew_e113 (cI cZ cS : ClassId) (h0 hm : Nat) (v : Nat → Nat → Nat) (sc : Int → Int) : ev_e cI cZ cS (ew_ad h0 hm v) (ew_s0 sc) (Int.ofNat 113) = .inl (cI, 3, .inl (fun _ => 0)) := rfl
theorem ew_c114 (cI cZ cS : ClassId) (h0 hm : Nat) (v : Nat → Nat → Nat) : (ew_W cI cZ cS h0 hm v)[117]? = some (v 2 70, .inl (cI, 12, .inl (fun _ => 0))) := rfl
theorem ew_a114 (h0 hm : Nat) (v : Nat → Nat → Nat) : ew_ad h0 hm v (Int.ofNat 114) = v 2 70 := rfl
theorem ew_e114 (cI cZ cS : ClassId) (h0 hm : Nat) (v : Nat → Nat → Nat) (sc : Int → Int) : ev_e cI cZ cS (ew_ad h0 hm v) (ew_s0 sc) (Int.ofNat 114) = .inl (cI, 12, .inl (fun _ => 0)) := rfl
theorem ew_c115 (cI cZ cS : ClassId) (h0 hm : Nat) (v : Nat → Nat → Nat) : (ew_W cI cZ cS h0 hm v)[118]? = some (v 2 71, .inr (7, [.ref (v 2 72), .ref (v 2 77), .ref (v 2 88), .int 0, .int 0, .int 0, .int 0])) := rfl
theorem ew_a115 (h0 hm : Nat) (v : Nat → Nat → Nat) : ew_ad h0 hm v (Int.ofNat 115) = v 2 71 := rfl
theorem ew_e115 (cI cZ cS : ClassId) (h0 hm : Nat) (v : Nat → Nat → Nat) (sc : Int → Int) : ev_e cI cZ cS (ew_ad h0 hm v) (ew_s0 sc) (Int.ofNat 115) = .inr (7, [.ref (v 2 72), .ref (v 2 77), .ref (v 2 88), .int 0, .int 0, .int 0, .int 0]) := rfl
theorem ew_c116 (cI cZ cS : ClassId) (h0 hm : Nat) (v : Nat → Nat → Nat) : (ew_W cI cZ cS h0 hm v)[119]? = some (v 2 72, .inr (6, [.int 0, .int 0, .ref (v 2 73), .ref (v 2 74), .ref (v 2 75), .ref (v 2 76)])) := rfl
theorem ew_a116 (h0 hm : Nat) (v : Nat → Nat → Nat) : ew_ad h0 hm v (Int.ofNat 116) = v 2 72 := rfl
theorem ew_e116 (cI cZ cS : ClassId) (h0 hm : Nat) (v : Nat → Nat → Nat) (sc : Int → Int) : ev_e cI cZ cS (ew_ad h0 hm v) (ew_s0 sc) (Int.ofNat 116) = .inr (6, [.int 0, .int 0, .ref (v 2 73), .ref (v 2 74), .ref (v 2 75), .ref (v 2 76)]) := rfl
theorem ew_c117 (cI cZ cS : ClassId) (h0 hm : Nat) (v : Nat → Nat → Nat) : (ew_W cI cZ cS h0 hm v)[120]? = some (v 2 73, .inl (cI, 20, .inl (fun _ => 0))) := rfl
theorem ew_a117 (h0 hm : Nat) (v : Nat → Nat → Nat) : ew_ad h0 hm v (Int.ofNat 117) = v 2 73 := rfl
theorem ew_e117 (cI cZ cS : ClassId) (h0 hm : Nat) (v : Nat → Nat → Nat) (sc : Int → Int) : ev_e cI cZ cS (ew_ad h0 hm v) (ew_s0 sc) (Int.ofNat 117) = .inl (cI, 20, .inl (fun _ => 0)) := rfl
theorem ew_c118 (cI cZ cS : ClassId) (h0 hm : Nat) (v : Nat → Nat → Nat) : (ew_W cI cZ cS h0 hm v)[121]? = some (v 2 74, .inl (cI, 20, .inl (fun _ => 0))) := rfl
theorem ew_a118 (h0 hm : Nat) (v : Nat → Nat → Nat) : ew_ad h0 hm v (Int.ofNat 118) = v 2 74 := rfl
theorem ew_e118 (cI cZ cS : ClassId) (h0 hm : Nat) (v : Nat → Nat → Nat) (sc : Int → Int) : ev_e cI cZ cS (ew_ad h0 hm v) (ew_s0 sc) (Int.ofNat 118) = .inl (cI, 20, .inl (fun _ => 0)) := rfl
theorem ew_c119 (cI cZ cS : ClassId) (h0 hm : Nat) (v : Nat → Nat → Nat) : (ew_W cI cZ cS h0 hm v)[122]? = some (v 2 75, .inl (cI, 20, .inl (fun _ => 0))) := rfl
theorem ew_a119 (h0 hm : Nat) (v : Nat → Nat → Nat) : ew_ad h0 hm v (Int.ofNat 119) = v 2 75 := rfl
theorem ew_e119 (cI cZ cS : ClassId) (h0 hm : Nat) (v : Nat → Nat → Nat) (sc : Int → Int) : ev_e cI cZ cS (ew_ad h0 hm v) (ew_s0 sc) (Int.ofNat 119) = .inl (cI, 20, .inl (fun _ => 0)) := rfl
theorem ew_c120 (cI cZ cS : ClassId) (h0 hm : Nat) (v : Nat → Nat → Nat) : (ew_W cI cZ cS h0 hm v)[123]? = some (v 2 76, .inl (cI, 20, .inl (fun _ => 0))) := rfl
theorem ew_a120 (h0 hm : Nat) (v : Nat → Nat → Nat) : ew_ad h0 hm v (Int.ofNat 120) = v 2 76 := rfl
theorem ew_e120 (cI cZ cS : ClassId) (h0 hm : Nat) (v : Nat → Nat → Nat) (sc : Int → Int) : ev_e cI cZ cS (ew_ad h0 hm v) (ew_s0 sc) (Int.ofNat 120) = .inl (cI, 20, .inl (fun _ => 0)) := rfl
theorem ew_c121 (cI cZ cS : ClassId) (h0 hm : Nat) (v : Nat → Nat → Nat) : (ew_W cI cZ cS h0 hm v)[124]? = some (v 2 77, .inr (1, [.int 0, .ref (v 2 78), .ref (v 2 79), .ref (v 2 80), .ref (v 2 81), .ref (v 2 82), .ref (v 2 83), .ref (v 2 84), .ref (v 2 85), .ref (v 2 86), .ref (v 2 87)])) := rfl
theorem ew_a121 (h0 hm : Nat) (v : Nat → Nat → Nat) : ew_ad h0 hm v (Int.ofNat 121) = v 2 77 := rfl
theorem ew_e121 (cI cZ cS : ClassId) (h0 hm : Nat) (v : Nat → Nat → Nat) (sc : Int → Int) : ev_e cI cZ cS (ew_ad h0 hm v) (ew_s0 sc) (Int.ofNat 121) = .inr (1, [.int 0, .ref (v 2 78), .ref (v 2 79), .ref (v 2 80), .ref (v 2 81), .ref (v 2 82), .ref (v 2 83), .ref (v 2 84), .ref (v 2 85), .ref (v 2 86), .ref (v 2 87)]) := rfl
theorem ew_c122 (cI cZ cS : ClassId) (h0 hm : Nat) (v : Nat → Nat → Nat) : (ew_W cI cZ cS h0 hm v)[125]? = some (v 2 78, .inl (cI, 6, .inl (fun _ => 0))) := rfl
theorem ew_a122 (h0 hm : Nat) (v : Nat → Nat → Nat) : ew_ad h0 hm v (Int.ofNat 122) = v 2 78 := rfl
theorem ew_e122 (cI cZ cS : ClassId) (h0 hm : Nat) (v : Nat → Nat → Nat) (sc : Int → Int) : ev_e cI cZ cS (ew_ad h0 hm v) (ew_s0 sc) (Int.ofNat 122) = .inl (cI, 6, .inl (fun _ => 0)) := rfl
theorem ew_c123 (cI cZ cS : ClassId) (h0 hm : Nat) (v : Nat → Nat → Nat) : (ew_W cI cZ cS h0 hm v)[126]? = some (v 2 79, .inl (cI, 6, .inl (fun _ => 0))) := rfl
theorem ew_a123 (h0 hm : Nat) (v : Nat → Nat → Nat) : ew_ad h0 hm v (Int.ofNat 123) = v 2 79 := rfl
theorem ew_e123 (cI cZ cS : ClassId) (h0 hm : Nat) (v : Nat → Nat → Nat) (sc : Int → Int) : ev_e cI cZ cS (ew_ad h0 hm v) (ew_s0 sc) (Int.ofNat 123) = .inl (cI, 6, .inl (fun _ => 0)) := rfl
theorem ew_c124 (cI cZ cS : ClassId) (h0 hm : Nat) (v : Nat → Nat → Nat) : (ew_W cI cZ cS h0 hm v)[127]? = some (v 2 80, .inl (cI, 6, .inl (fun _ => 0))) := rfl
theorem ew_a124 (h0 hm : Nat) (v : Nat → Nat → Nat) : ew_ad h0 hm v (Int.ofNat 124) = v 2 80 := rfl
theorem ew_e124 (cI cZ cS : ClassId) (h0 hm : Nat) (v : Nat → Nat → Nat) (sc : Int → Int) : ev_e cI cZ cS (ew_ad h0 hm v) (ew_s0 sc) (Int.ofNat 124) = .inl (cI, 6, .inl (fun _ => 0)) := rfl
theorem ew_c125 (cI cZ cS : ClassId) (h0 hm : Nat) (v : Nat → Nat → Nat) : (ew_W cI cZ cS h0 hm v)[128]? = some (v 2 81, .inl (cZ, 6, .inl (fun _ => 0))) := rfl
theorem ew_a125 (h0 hm : Nat) (v : Nat → Nat → Nat) : ew_ad h0 hm v (Int.ofNat 125) = v 2 81 := rfl
theorem ew_e125 (cI cZ cS : ClassId) (h0 hm : Nat) (v : Nat → Nat → Nat) (sc : Int → Int) : ev_e cI cZ cS (ew_ad h0 hm v) (ew_s0 sc) (Int.ofNat 125) = .inl (cZ, 6, .inl (fun _ => 0)) := rfl
theorem ew_c126 (cI cZ cS : ClassId) (h0 hm : Nat) (v : Nat → Nat → Nat) : (ew_W cI cZ cS h0 hm v)[129]? = some (v 2 82, .inl (cI, 6, .inl (fun _ => 0))) := rfl
theorem ew_a126 (h0 hm : Nat) (v : Nat → Nat → Nat) : ew_ad h0 hm v (Int.ofNat 126) = v 2 82 := rfl
theorem ew_e126 (cI cZ cS : ClassId) (h0 hm : Nat) (v : Nat → Nat → Nat) (sc : Int → Int) : ev_e cI cZ cS (ew_ad h0 hm v) (ew_s0 sc) (Int.ofNat 126) = .inl (cI, 6, .inl (fun _ => 0)) := rfl
theorem ew_c127 (cI cZ cS : ClassId) (h0 hm : Nat) (v : Nat → Nat → Nat) : (ew_W cI cZ cS h0 hm v)[130]? = some (v 2 83, .inl (cI, 36, .inl (fun _ => 0))) := rfl
theorem ew_a127 (h0 hm : Nat) (v : Nat → Nat → Nat) : ew_ad h0 hm v (Int.ofNat 127) = v 2 83 := rfl
theorem ew_e127 (cI cZ cS : ClassId) (h0 hm : Nat) (v : Nat → Nat → Nat) (sc : Int → Int) : ev_e cI cZ cS (ew_ad h0 hm v) (ew_s0 sc) (Int.ofNat 127) = .inl (cI, 36, .inl (fun _ => 0)) := rfl
theorem ew_c128 (cI cZ cS : ClassId) (h0 hm : Nat) (v : Nat → Nat → Nat) : (ew_W cI cZ cS h0 hm v)[131]? = some (v 2 84, .inl (cI, 36, .inl (fun _ => 0))) := rfl
theorem ew_a128 (h0 hm : Nat) (v : Nat → Nat → Nat) : ew_ad h0 hm v (Int.ofNat 128) = v 2 84 := rfl
theorem ew_e128 (cI cZ cS : ClassId) (h0 hm : Nat) (v : Nat → Nat → Nat) (sc : Int → Int) : ev_e cI cZ cS (ew_ad h0 hm v) (ew_s0 sc) (Int.ofNat 128) = .inl (cI, 36, .inl (fun _ => 0)) := rfl
theorem ew_c129 (cI cZ cS : ClassId) (h0 hm : Nat) (v : Nat → Nat → Nat) : (ew_W cI cZ cS h0 hm v)[132]? = some (v 2 85, .inl (cI, 36, .inl (fun _ => 0))) := rfl
theorem ew_a129 (h0 hm : Nat) (v : Nat → Nat → Nat) : ew_ad h0 hm v (Int.ofNat 129) = v 2 85 := rfl
theorem ew_e129 (cI cZ cS : ClassId) (h0 hm : Nat) (v : Nat → Nat → Nat) (sc : Int → Int) : ev_e cI cZ cS (ew_ad h0 hm v) (ew_s0 sc) (Int.ofNat 129) = .inl (cI, 36, .inl (fun _ => 0)) := rfl
theorem ew_c130 (cI cZ cS : ClassId) (h0 hm : Nat) (v : Nat → Nat → Nat) : (ew_W cI cZ cS h0 hm v)[133]? = some (v 2 86, .inl (cI, 36, .inl (fun _ => 0))) := rfl
theorem ew_a130 (h0 hm : Nat) (v : Nat → Nat → Nat) : ew_ad h0 hm v (Int.ofNat 130) = v 2 86 := rfl
theorem ew_e130 (cI cZ cS : ClassId) (h0 hm : Nat) (v : Nat → Nat → Nat) (sc : Int → Int) : ev_e cI cZ cS (ew_ad h0 hm v) (ew_s0 sc) (Int.ofNat 130) = .inl (cI, 36, .inl (fun _ => 0)) := rfl
theorem ew_c131 (cI cZ cS : ClassId) (h0 hm : Nat) (v : Nat → Nat → Nat) : (ew_W cI cZ cS h0 hm v)[134]? = some (v 2 87, .inl (cI, 36, .inl (fun _ => 0))) := rfl
theorem ew_a131 (h0 hm : Nat) (v : Nat → Nat → Nat) : ew_ad h0 hm v (Int.ofNat 131) = v 2 87 := rfl
theorem ew_e131 (cI cZ cS : ClassId) (h0 hm : Nat) (v : Nat → Nat → Nat) (sc : Int → Int) : ev_e cI cZ cS (ew_ad h0 hm v) (ew_s0 sc) (Int.ofNat 131) = .inl (cI, 36, .inl (fun _ => 0)) := rfl
theorem ew_c132 (cI cZ cS : ClassId) (h0 hm : Nat) (v : Nat → Nat → Nat) : (ew_W cI cZ cS h0 hm v)[135]? = some (v 2 88, .inr (4, [.int 0, .int 0, .ref (v 2 89), .ref (v 2 90), .ref (v 2 91), .ref (v 2 92), .ref (v 2 93)])) := rfl
theorem ew_a132 (h0 hm : Nat) (v : Nat → Nat → Nat) : ew_ad h0 hm v (Int.ofNat 132) = v 2 88 := rfl
theorem ew_e132 (cI cZ cS : ClassId) (h0 hm : Nat) (v : Nat → Nat → Nat) (sc : Int → Int) : ev_e cI cZ cS (ew_ad h0 hm v) (ew_s0 sc) (Int.ofNat 132) = .inr (4, [.int 0, .int 0, .ref (v 2 89), .ref (v 2 90), .ref (v 2 91), .ref (v 2 92), .ref (v 2 93)]) := rfl
theorem ew_c133 (cI cZ cS : ClassId) (h0 hm : Nat) (v : Nat → Nat → Nat) : (ew_W cI cZ cS h0 hm v)[136]? = some (v 2 89, .inl (cI, 8, .inl (fun _ => 0))) := rfl
theorem ew_a133 (h0 hm : Nat) (v : Nat → Nat → Nat) : ew_ad h0 hm v (Int.ofNat 133) = v 2 89 := rfl
theorem ew_e133 (cI cZ cS : ClassId) (h0 hm : Nat) (v : Nat → Nat → Nat) (sc : Int → Int) : ev_e cI cZ cS (ew_ad h0 hm v) (ew_s0 sc) (Int.ofNat 133) = .inl (cI, 8, .inl (fun _ => 0)) := rfl
theorem ew_c134 (cI cZ cS : ClassId) (h0 hm : Nat) (v : Nat → Nat → Nat) : (ew_W cI cZ cS h0 hm v)[137]? = some (v 2 90, .inl (cI, 8, .inl (fun _ => 0))) := rfl
theorem ew_a134 (h0 hm : Nat) (v : Nat → Nat → Nat) : ew_ad h0 hm v (Int.ofNat 134) = v 2 90 := rfl
theorem ew_e134 (cI cZ cS : ClassId) (h0 hm : Nat) (v : Nat → Nat → Nat) (sc : Int → Int) : ev_e cI cZ cS (ew_ad h0 hm v) (ew_s0 sc) (Int.ofNat 134) = .inl (cI, 8, .inl (fun _ => 0)) := rfl
theorem ew_c135 (cI cZ cS : ClassId) (h0 hm : Nat) (v : Nat → Nat → Nat) : (ew_W cI cZ cS h0 hm v)[138]? = some (v 2 91, .inl (cI, 8, .inl (fun _ => 0))) := rfl
theorem ew_a135 (h0 hm : Nat) (v : Nat → Nat → Nat) : ew_ad h0 hm v (Int.ofNat 135) = v 2 91 := rfl
theorem ew_e135 (cI cZ cS : ClassId) (h0 hm : Nat) (v : Nat → Nat → Nat) (sc : Int → Int) : ev_e cI cZ cS (ew_ad h0 hm v) (ew_s0 sc) (Int.ofNat 135) = .inl (cI, 8, .inl (fun _ => 0)) := rfl
theorem ew_c136 (cI cZ cS : ClassId) (h0 hm : Nat) (v : Nat → Nat → Nat) : (ew_W cI cZ cS h0 hm v)[139]? = some (v 2 92, .inl (cI, 3, .inl (fun _ => 0))) := rfl
theorem ew_a136 (h0 hm : Nat) (v : Nat → Nat → Nat) : ew_ad h0 hm v (Int.ofNat 136) = v 2 92 := rfl
theorem ew_e136 (cI cZ cS : ClassId) (h0 hm : Nat) (v : Nat → Nat → Nat) (sc : Int → Int) : ev_e cI cZ cS (ew_ad h0 hm v) (ew_s0 sc) (Int.ofNat 136) = .inl (cI, 3, .inl (fun _ => 0)) := rfl
theorem ew_c137 (cI cZ cS : ClassId) (h0 hm : Nat) (v : Nat → Nat → Nat) : (ew_W cI cZ cS h0 hm v)[140]? = some (v 2 93, .inl (cI, 12, .inl (fun _ => 0))) := rfl
theorem ew_a137 (h0 hm : Nat) (v : Nat → Nat → Nat) : ew_ad h0 hm v (Int.ofNat 137) = v 2 93 := rfl
theorem ew_e137 (cI cZ cS : ClassId) (h0 hm : Nat) (v : Nat → Nat → Nat) (sc : Int → Int) : ev_e cI cZ cS (ew_ad h0 hm v) (ew_s0 sc) (Int.ofNat 137) = .inl (cI, 12, .inl (fun _ => 0)) := rfl
theorem ew_c138 (cI cZ cS : ClassId) (h0 hm : Nat) (v : Nat → Nat → Nat) : (ew_W cI cZ cS h0 hm v)[141]? = some (v 2 94, .inr (7, [.ref (v 2 95), .ref (v 2 100), .ref (v 2 111), .int 0, .int 0, .int 0, .int 0])) := rfl
theorem ew_a138 (h0 hm : Nat) (v : Nat → Nat → Nat) : ew_ad h0 hm v (Int.ofNat 138) = v 2 94 := rfl
theorem ew_e138 (cI cZ cS : ClassId) (h0 hm : Nat) (v : Nat → Nat → Nat) (sc : Int → Int) : ev_e cI cZ cS (ew_ad h0 hm v) (ew_s0 sc) (Int.ofNat 138) = .inr (7, [.ref (v 2 95), .ref (v 2 100), .ref (v 2 111), .int 0, .int 0, .int 0, .int 0]) := rfl
theorem ew_c139 (cI cZ cS : ClassId) (h0 hm : Nat) (v : Nat → Nat → Nat) : (ew_W cI cZ cS h0 hm v)[142]? = some (v 2 95, .inr (6, [.int 0, .int 0, .ref (v 2 96), .ref (v 2 97), .ref (v 2 98), .ref (v 2 99)])) := rfl
theorem ew_a139 (h0 hm : Nat) (v : Nat → Nat → Nat) : ew_ad h0 hm v (Int.ofNat 139) = v 2 95 := rfl
theorem ew_e139 (cI cZ cS : ClassId) (h0 hm : Nat) (v : Nat → Nat → Nat) (sc : Int → Int) : ev_e cI cZ cS (ew_ad h0 hm v) (ew_s0 sc) (Int.ofNat 139) = .inr (6, [.int 0, .int 0, .ref (v 2 96), .ref (v 2 97), .ref (v 2 98), .ref (v 2 99)]) := rfl
theorem ew_c140 (cI cZ cS : ClassId) (h0 hm : Nat) (v : Nat → Nat → Nat) : (ew_W cI cZ cS h0 hm v)[143]? = some (v 2 96, .inl (cI, 20, .inl (fun _ => 0))) := rfl
theorem ew_a140 (h0 hm : Nat) (v : Nat → Nat → Nat) : ew_ad h0 hm v (Int.ofNat 140) = v 2 96 := rfl
theorem ew_e140 (cI cZ cS : ClassId) (h0 hm : Nat) (v : Nat → Nat → Nat) (sc : Int → Int) : ev_e cI cZ cS (ew_ad h0 hm v) (ew_s0 sc) (Int.ofNat 140) = .inl (cI, 20, .inl (fun _ => 0)) := rfl
theorem ew_c141 (cI cZ cS : ClassId) (h0 hm : Nat) (v : Nat → Nat → Nat) : (ew_W cI cZ cS h0 hm v)[144]? = some (v 2 97, .inl (cI, 20, .inl (fun _ => 0))) := rfl
theorem ew_a141 (h0 hm : Nat) (v : Nat → Nat → Nat) : ew_ad h0 hm v (Int.ofNat 141) = v 2 97 := rfl
theorem ew_e141 (cI cZ cS : ClassId) (h0 hm : Nat) (v : Nat → Nat → Nat) (sc : Int → Int) : ev_e cI cZ cS (ew_ad h0 hm v) (ew_s0 sc) (Int.ofNat 141) = .inl (cI, 20, .inl (fun _ => 0)) := rfl
theorem ew_c142 (cI cZ cS : ClassId) (h0 hm : Nat) (v : Nat → Nat → Nat) : (ew_W cI cZ cS h0 hm v)[145]? = some (v 2 98, .inl (cI, 20, .inl (fun _ => 0))) := rfl
theorem ew_a142 (h0 hm : Nat) (v : Nat → Nat → Nat) : ew_ad h0 hm v (Int.ofNat 142) = v 2 98 := rfl
theorem ew_e142 (cI cZ cS : ClassId) (h0 hm : Nat) (v : Nat → Nat → Nat) (sc : Int → Int) : ev_e cI cZ cS (ew_ad h0 hm v) (ew_s0 sc) (Int.ofNat 142) = .inl (cI, 20, .inl (fun _ => 0)) := rfl
theorem ew_c143 (cI cZ cS : ClassId) (h0 hm : Nat) (v : Nat → Nat → Nat) : (ew_W cI cZ cS h0 hm v)[146]? = some (v 2 99, .inl (cI, 20, .inl (fun _ => 0))) := rfl
theorem ew_a143 (h0 hm : Nat) (v : Nat → Nat → Nat) : ew_ad h0 hm v (Int.ofNat 143) = v 2 99 := rfl
theorem ew_e143 (cI cZ cS : ClassId) (h0 hm : Nat) (v : Nat → Nat → Nat) (sc : Int → Int) : ev_e cI cZ cS (ew_ad h0 hm v) (ew_s0 sc) (Int.ofNat 143) = .inl (cI, 20, .inl (fun _ => 0)) := rfl
theorem ew_c144 (cI cZ cS : ClassId) (h0 hm : Nat) (v : Nat → Nat → Nat) : (ew_W cI cZ cS h0 hm v)[147]? = some (v 2 100, .inr (1, [.int 0, .ref (v 2 101), .ref (v 2 102), .ref (v 2 103), .ref (v 2 104), .ref (v 2 105), .ref (v 2 106), .ref (v 2 107), .ref (v 2 108), .ref (v 2 109), .ref (v 2 110)])) := rfl
theorem ew_a144 (h0 hm : Nat) (v : Nat → Nat → Nat) : ew_ad h0 hm v (Int.ofNat 144) = v 2 100 := rfl
theorem ew_e144 (cI cZ cS : ClassId) (h0 hm : Nat) (v : Nat → Nat → Nat) (sc : Int → Int) : ev_e cI cZ cS (ew_ad h0 hm v) (ew_s0 sc) (Int.ofNat 144) = .inr (1, [.int 0, .ref (v 2 101), .ref (v 2 102), .ref (v 2 103), .ref (v 2 104), .ref (v 2 105), .ref (v 2 106), .ref (v 2 107), .ref (v 2 108), .ref (v 2 109), .ref (v 2 110)]) := rfl
theorem ew_c145 (cI cZ cS : ClassId) (h0 hm : Nat) (v : Nat → Nat → Nat) : (ew_W cI cZ cS h0 hm v)[148]? = some (v 2 101, .inl (cI, 6, .inl (fun _ => 0))) := rfl
theorem ew_a145 (h0 hm : Nat) (v : Nat → Nat → Nat) : ew_ad h0 hm v (Int.ofNat 145) = v 2 101 := rfl
theorem ew_e145 (cI cZ cS : ClassId) (h0 hm : Nat) (v : Nat → Nat → Nat) (sc : Int → Int) : ev_e cI cZ cS (ew_ad h0 hm v) (ew_s0 sc) (Int.ofNat 145) = .inl (cI, 6, .inl (fun _ => 0)) := rfl
theorem ew_c146 (cI cZ cS : ClassId) (h0 hm : Nat) (v : Nat → Nat → Nat) : (ew_W cI cZ cS h0 hm v)[149]? = some (v 2 102, .inl (cI, 6, .inl (fun _ => 0))) := rfl
theorem ew_a146 (h0 hm : Nat) (v : Nat → Nat → Nat) : ew_ad h0 hm v (Int.ofNat 146) = v 2 102 := rfl
theorem ew_e146 (cI cZ cS : ClassId) (h0 hm : Nat) (v : Nat → Nat → Nat) (sc : Int → Int) : ev_e cI cZ cS (ew_ad h0 hm v) (ew_s0 sc) (Int.ofNat 146) = .inl (cI, 6, .inl (fun _ => 0)) := rfl
theorem ew_c147 (cI cZ cS : ClassId) (h0 hm : Nat) (v : Nat → Nat → Nat) : (ew_W cI cZ cS h0 hm v)[150]? = some (v 2 103, .inl (cI, 6, .inl (fun _ => 0))) := rfl
theorem ew_a147 (h0 hm : Nat) (v : Nat → Nat → Nat) : ew_ad h0 hm v (Int.ofNat 147) = v 2 103 := rfl
theorem ew_e147 (cI cZ cS : ClassId) (h0 hm : Nat) (v : Nat → Nat → Nat) (sc : Int → Int) : ev_e cI cZ cS (ew_ad h0 hm v) (ew_s0 sc) (Int.ofNat 147) = .inl (cI, 6, .inl (fun _ => 0)) := rfl
theorem ew_c148 (cI cZ cS : ClassId) (h0 hm : Nat) (v : Nat → Nat → Nat) : (ew_W cI cZ cS h0 hm v)[151]? = some (v 2 104, .inl (cZ, 6, .inl (fun _ => 0))) := rfl
theorem ew_a148 (h0 hm : Nat) (v : Nat → Nat → Nat) : ew_ad h0 hm v (Int.ofNat 148) = v 2 104 := rfl
theorem ew_e148 (cI cZ cS : ClassId) (h0 hm : Nat) (v : Nat → Nat → Nat) (sc : Int → Int) : ev_e cI cZ cS (ew_ad h0 hm v) (ew_s0 sc) (Int.ofNat 148) = .inl (cZ, 6, .inl (fun _ => 0)) := rfl
theorem ew_c149 (cI cZ cS : ClassId) (h0 hm : Nat) (v : Nat → Nat → Nat) : (ew_W cI cZ cS h0 hm v)[152]? = some (v 2 105, .inl (cI, 6, .inl (fun _ => 0))) := rfl
theorem ew_a149 (h0 hm : Nat) (v : Nat → Nat → Nat) : ew_ad h0 hm v (Int.ofNat 149) = v 2 105 := rfl
theorem ew_e149 (cI cZ cS : ClassId) (h0 hm : Nat) (v : Nat → Nat → Nat) (sc : Int → Int) : ev_e cI cZ cS (ew_ad h0 hm v) (ew_s0 sc) (Int.ofNat 149) = .inl (cI, 6, .inl (fun _ => 0)) := rfl
theorem ew_c150 (cI cZ cS : ClassId) (h0 hm : Nat) (v : Nat → Nat → Nat) : (ew_W cI cZ cS h0 hm v)[153]? = some (v 2 106, .inl (cI, 36, .inl (fun _ => 0))) := rfl
theorem ew_a150 (h0 hm : Nat) (v : Nat → Nat → Nat) : ew_ad h0 hm v (Int.ofNat 150) = v 2 106 := rfl
theorem ew_e150 (cI cZ cS : ClassId) (h0 hm : Nat) (v : Nat → Nat → Nat) (sc : Int → Int) : ev_e cI cZ cS (ew_ad h0 hm v) (ew_s0 sc) (Int.ofNat 150) = .inl (cI, 36, .inl (fun _ => 0)) := rfl
theorem ew_c151 (cI cZ cS : ClassId) (h0 hm : Nat) (v : Nat → Nat → Nat) : (ew_W cI cZ cS h0 hm v)[154]? = some (v 2 107, .inl (cI, 36, .inl (fun _ => 0))) := rfl
theorem ew_a151 (h0 hm : Nat) (v : Nat → Nat → Nat) : ew_ad h0 hm v (Int.ofNat 151) = v 2 107 := rfl
theorem ew_e151 (cI cZ cS : ClassId) (h0 hm : Nat) (v : Nat → Nat → Nat) (sc : Int → Int) : ev_e cI cZ cS (ew_ad h0 hm v) (ew_s0 sc) (Int.ofNat 151) = .inl (cI, 36, .inl (fun _ => 0)) := rfl
theorem ew_c152 (cI cZ cS : ClassId) (h0 hm : Nat) (v : Nat → Nat → Nat) : (ew_W cI cZ cS h0 hm v)[155]? = some (v 2 108, .inl (cI, 36, .inl (fun _ => 0))) := rfl
theorem ew_a152 (h0 hm : Nat) (v : Nat → Nat → Nat) : ew_ad h0 hm v (Int.ofNat 152) = v 2 108 := rfl
theorem ew_e152 (cI cZ cS : ClassId) (h0 hm : Nat) (v : Nat → Nat → Nat) (sc : Int → Int) : ev_e cI cZ cS (ew_ad h0 hm v) (ew_s0 sc) (Int.ofNat 152) = .inl (cI, 36, .inl (fun _ => 0)) := rfl
theorem ew_c153 (cI cZ cS : ClassId) (h0 hm : Nat) (v : Nat → Nat → Nat) : (ew_W cI cZ cS h0 hm v)[156]? = some (v 2 109, .inl (cI, 36, .inl (fun _ => 0))) := rfl
theorem ew_a153 (h0 hm : Nat) (v : Nat → Nat → Nat) : ew_ad h0 hm v (Int.ofNat 153) = v 2 109 := rfl
theorem ew_e153 (cI cZ cS : ClassId) (h0 hm : Nat) (v : Nat → Nat → Nat) (sc : Int → Int) : ev_e cI cZ cS (ew_ad h0 hm v) (ew_s0 sc) (Int.ofNat 153) = .inl (cI, 36, .inl (fun _ => 0)) := rfl
theorem ew_c154 (cI cZ cS : ClassId) (h0 hm : Nat) (v : Nat → Nat → Nat) : (ew_W cI cZ cS h0 hm v)[157]? = some (v 2 110, .inl (cI, 36, .inl (fun _ => 0))) := rfl
theorem ew_a154 (h0 hm : Nat) (v : Nat → Nat → Nat) : ew_ad h0 hm v (Int.ofNat 154) = v 2 110 := rfl
theorem ew_e154 (cI cZ cS : ClassId) (h0 hm : Nat) (v : Nat → Nat → Nat) (sc : Int → Int) : ev_e cI cZ cS (ew_ad h0 hm v) (ew_s0 sc) (Int.ofNat 154) = .inl (cI, 36, .inl (fun _ => 0)) := rfl
theorem ew_c155 (cI cZ cS : ClassId) (h0 hm : Nat) (v : Nat → Nat → Nat) : (ew_W cI cZ cS h0 hm v)[158]? = some (v 2 111, .inr (4, [.int 0, .int 0, .ref (v 2 112), .ref (v 2 113), .ref (v 2 114), .ref (v 2 115), .ref (v 2 116)])) := rfl
theorem ew_a155 (h0 hm : Nat) (v : Nat → Nat → Nat) : ew_ad h0 hm v (Int.ofNat 155) = v 2 111 := rfl
theorem ew_e155 (cI cZ cS : ClassId) (h0 hm : Nat) (v : Nat → Nat → Nat) (sc : Int → Int) : ev_e cI cZ cS (ew_ad h0 hm v) (ew_s0 sc) (Int.ofNat 155) = .inr (4, [.int 0, .int 0, .ref (v 2 112), .ref (v 2 113), .ref (v 2 114), .ref (v 2 115), .ref (v 2 116)]) := rfl
theorem ew_c156 (cI cZ cS : ClassId) (h0 hm : Nat) (v : Nat → Nat → Nat) : (ew_W cI cZ cS h0 hm v)[159]? = some (v 2 112, .inl (cI, 8, .inl (fun _ => 0))) := rfl
theorem ew_a156 (h0 hm : Nat) (v : Nat → Nat → Nat) : ew_ad h0 hm v (Int.ofNat 156) = v 2 112 := rfl
theorem ew_e156 (cI cZ cS : ClassId) (h0 hm : Nat) (v : Nat → Nat → Nat) (sc : Int → Int) : ev_e cI cZ cS (ew_ad h0 hm v) (ew_s0 sc) (Int.ofNat 156) = .inl (cI, 8, .inl (fun _ => 0)) := rfl
theorem ew_c157 (cI cZ cS : ClassId) (h0 hm : Nat) (v : Nat → Nat → Nat) : (ew_W cI cZ cS h0 hm v)[160]? = some (v 2 113, .inl (cI, 8, .inl (fun _ => 0))) := rfl
theorem ew_a157 (h0 hm : Nat) (v : Nat → Nat → Nat) : ew_ad h0 hm v (Int.ofNat 157) = v 2 113 := rfl
theorem ew_e157 (cI cZ cS : ClassId) (h0 hm : Nat) (v : Nat → Nat → Nat) (sc : Int → Int) : ev_e cI cZ cS (ew_ad h0 hm v) (ew_s0 sc) (Int.ofNat 157) = .inl (cI, 8, .inl (fun _ => 0)) := rfl
theorem ew_c158 (cI cZ cS : ClassId) (h0 hm : Nat) (v : Nat → Nat → Nat) : (ew_W cI cZ cS h0 hm v)[161]? = some (v 2 114, .inl (cI, 8, .inl (fun _ => 0))) := rfl
theorem ew_a158 (h0 hm : Nat) (v : Nat → Nat → Nat) : ew_ad h0 hm v (Int.ofNat 158) = v 2 114 := rfl
theorem ew_e158 (cI cZ cS : ClassId) (h0 hm : Nat) (v : Nat → Nat → Nat) (sc : Int → Int) : ev_e cI cZ cS (ew_ad h0 hm v) (ew_s0 sc) (Int.ofNat 158) = .inl (cI, 8, .inl (fun _ => 0)) := rfl
theorem ew_c159 (cI cZ cS : ClassId) (h0 hm : Nat) (v : Nat → Nat → Nat) : (ew_W cI cZ cS h0 hm v)[162]? = some (v 2 115, .inl (cI, 3, .inl (fun _ => 0))) := rfl
theorem ew_a159 (h0 hm : Nat) (v : Nat → Nat → Nat) : ew_ad h0 hm v (Int.ofNat 159) = v 2 115 := rfl
theorem ew_e159 (cI cZ cS : ClassId) (h0 hm : Nat) (v : Nat → Nat → Nat) (sc : Int → Int) : ev_e cI cZ cS (ew_ad h0 hm v) (ew_s0 sc) (Int.ofNat 159) = .inl (cI, 3, .inl (fun _ => 0)) := rfl
theorem ew_c160 (cI cZ cS : ClassId) (h0 hm : Nat) (v : Nat → Nat → Nat) : (ew_W cI cZ cS h0 hm v)[163]? = some (v 2 116, .inl (cI, 12, .inl (fun _ => 0))) := rfl
theorem ew_a160 (h0 hm : Nat) (v : Nat → Nat → Nat) : ew_ad h0 hm v (Int.ofNat 160) = v 2 116 := rfl
theorem ew_e160 (cI cZ cS : ClassId) (h0 hm : Nat) (v : Nat → Nat → Nat) (sc : Int → Int) : ev_e cI cZ cS (ew_ad h0 hm v) (ew_s0 sc) (Int.ofNat 160) = .inl (cI, 12, .inl (fun _ => 0)) := rfl
theorem ew_c161 (cI cZ cS : ClassId) (h0 hm : Nat) (v : Nat → Nat → Nat) : (ew_W cI cZ cS h0 hm v)[0]? = some (h0, .inr (10, [.ref (v 0 0), .ref (v 1 0), .ref (v 2 0), .ref (v 3 0), .ref (v 4 0), .ref (v 5 0), .ref (v 6 0), .ref (v 7 0)])) := rfl
theorem ew_a161 (h0 hm : Nat) (v : Nat → Nat → Nat) : ew_ad h0 hm v (Int.ofNat 161) = h0 := rfl
theorem ew_e161 (cI cZ cS : ClassId) (h0 hm : Nat) (v : Nat → Nat → Nat) (sc : Int → Int) : ev_e cI cZ cS (ew_ad h0 hm v) (ew_s0 sc) (Int.ofNat 161) = .inr (10, [.ref (v 0 0), .ref (v 1 0), .ref (v 2 0), .ref (v 3 0), .ref (v 4 0), .ref (v 5 0), .ref (v 6 0), .ref (v 7 0)]) := rfl
theorem ew_c162 (cI cZ cS : ClassId) (h0 hm : Nat) (v : Nat → Nat → Nat) : (ew_W cI cZ cS h0 hm v)[47]? = some (v 2 0, .inr (3, [.int 0, .ref (v 2 1)])) := rfl
theorem ew_a162 (h0 hm : Nat) (v : Nat → Nat → Nat) : ew_ad h0 hm v (Int.ofNat 162) = v 2 0 := rfl
theorem ew_e162 (cI cZ cS : ClassId) (h0 hm : Nat) (v : Nat → Nat → Nat) (sc : Int → Int) : ev_e cI cZ cS (ew_ad h0 hm v) (ew_s0 sc) (Int.ofNat 162) = .inr (3, [.int 0, .ref (v 2 1)]) := rfl
theorem ew_c163 (cI cZ cS : ClassId) (h0 hm : Nat) (v : Nat → Nat → Nat) : (ew_W cI cZ cS h0 hm v)[48]? = some (v 2 1, .inl (cS, 5, .inr (.inr (.inr (.inr (fun j => some (ew_ad h0 hm v (46 + 23 * (j : Int))))))))) := rfl
theorem ew_a163 (h0 hm : Nat) (v : Nat → Nat → Nat) : ew_ad h0 hm v (Int.ofNat 163) = v 2 1 := rfl
theorem ew_e163 (cI cZ cS : ClassId) (h0 hm : Nat) (v : Nat → Nat → Nat) (sc : Int → Int) : ev_e cI cZ cS (ew_ad h0 hm v) (ew_s0 sc) (Int.ofNat 163) = .inl (cS, 5, .inr (.inr (.inr (.inr (fun j => some (ew_ad h0 hm v (46 + 23 * (j : Int)))))))) := rfl
theorem ew_c164 (cI cZ cS : ClassId) (h0 hm : Nat) (v : Nat → Nat → Nat) : (ew_W cI cZ cS h0 hm v)[164]? = some (v 3 0, .inr (5, [.ref (v 3 1), .int 0, .int 0, .int 0, .int 0, .int 0, .int 0, .ref (v 3 2), .ref (v 3 3), .ref (v 3 4), .ref (v 3 5)])) := rfl
theorem ew_a164 (h0 hm : Nat) (v : Nat → Nat → Nat) : ew_ad h0 hm v (Int.ofNat 164) = v 3 0 := rfl
theorem ew_e164 (cI cZ cS : ClassId) (h0 hm : Nat) (v : Nat → Nat → Nat) (sc : Int → Int) : ev_e cI cZ cS (ew_ad h0 hm v) (ew_s0 sc) (Int.ofNat 164) = .inr (5, [.ref (v 3 1), .int 0, .int 0, .int 0, .int 0, .int 0, .int 0, .ref (v 3 2), .ref (v 3 3), .ref (v 3 4), .ref (v 3 5)]) := rfl
theorem ew_c165 (cI cZ cS : ClassId) (h0 hm : Nat) (v : Nat → Nat → Nat) : (ew_W cI cZ cS h0 hm v)[165]? = some (v 3 1, .inl (cI, 100, .inl (fun _ => 0))) := rfl
theorem ew_a165 (h0 hm : Nat) (v : Nat → Nat → Nat) : ew_ad h0 hm v (Int.ofNat 165) = v 3 1 := rfl
theorem ew_e165 (cI cZ cS : ClassId) (h0 hm : Nat) (v : Nat → Nat → Nat) (sc : Int → Int) : ev_e cI cZ cS (ew_ad h0 hm v) (ew_s0 sc) (Int.ofNat 165) = .inl (cI, 100, .inl (fun _ => 0)) := rfl
theorem ew_c166 (cI cZ cS : ClassId) (h0 hm : Nat) (v : Nat → Nat → Nat) : (ew_W cI cZ cS h0 hm v)[166]? = some (v 3 2, .inl (cI, 20, .inl (fun _ => 0))) := rfl
theorem ew_a166 (h0 hm : Nat) (v : Nat → Nat → Nat) : ew_ad h0 hm v (Int.ofNat 166) = v 3 2 := rfl
theorem ew_e166 (cI cZ cS : ClassId) (h0 hm : Nat) (v : Nat → Nat → Nat) (sc : Int → Int) : ev_e cI cZ cS (ew_ad h0 hm v) (ew_s0 sc) (Int.ofNat 166) = .inl (cI, 20, .inl (fun _ => 0)) := rfl
theorem ew_c167 (cI cZ cS : ClassId) (h0 hm : Nat) (v : Nat → Nat → Nat) : (ew_W cI cZ cS h0 hm v)[167]? = some (v 3 3, .inl (cI, 20, .inl (fun _ => 0))) := rfl
theorem ew_a167 (h0 hm : Nat) (v : Nat → Nat → Nat) : ew_ad h0 hm v (Int.ofNat 167) = v 3 3 := rfl
theorem ew_e167 (cI cZ cS : ClassId) (h0 hm : Nat) (v : Nat → Nat → Nat) (sc : Int → Int) : ev_e cI cZ cS (ew_ad h0 hm v) (ew_s0 sc) (Int.ofNat 167) = .inl (cI, 20, .inl (fun _ => 0)) := rfl
theorem ew_c168 (cI cZ cS : ClassId) (h0 hm : Nat) (v : Nat → Nat → Nat) : (ew_W cI cZ cS h0 hm v)[168]? = some (v 3 4, .inl (cI, 20, .inl (fun _ => 0))) := rfl
theorem ew_a168 (h0 hm : Nat) (v : Nat → Nat → Nat) : ew_ad h0 hm v (Int.ofNat 168) = v 3 4 := rfl
theorem ew_e168 (cI cZ cS : ClassId) (h0 hm : Nat) (v : Nat → Nat → Nat) (sc : Int → Int) : ev_e cI cZ cS (ew_ad h0 hm v) (ew_s0 sc) (Int.ofNat 168) = .inl (cI, 20, .inl (fun _ => 0)) := rfl
theorem ew_c169 (cI cZ cS : ClassId) (h0 hm : Nat) (v : Nat → Nat → Nat) : (ew_W cI cZ cS h0 hm v)[169]? = some (v 3 5, .inl (cZ, 20, .inl (fun _ => 0))) := rfl
theorem ew_a169 (h0 hm : Nat) (v : Nat → Nat → Nat) : ew_ad h0 hm v (Int.ofNat 169) = v 3 5 := rfl
theorem ew_e169 (cI cZ cS : ClassId) (h0 hm : Nat) (v : Nat → Nat → Nat) (sc : Int → Int) : ev_e cI cZ cS (ew_ad h0 hm v) (ew_s0 sc) (Int.ofNat 169) = .inl (cZ, 20, .inl (fun _ => 0)) := rfl
theorem ew_c170 (cI cZ cS : ClassId) (h0 hm : Nat) (v : Nat → Nat → Nat) : (ew_W cI cZ cS h0 hm v)[170]? = some (v 4 0, .inr (2, [.ref (v 4 1), .ref (v 4 2)])) := rfl
theorem ew_a170 (h0 hm : Nat) (v : Nat → Nat → Nat) : ew_ad h0 hm v (Int.ofNat 170) = v 4 0 := rfl
theorem ew_e170 (cI cZ cS : ClassId) (h0 hm : Nat) (v : Nat → Nat → Nat) (sc : Int → Int) : ev_e cI cZ cS (ew_ad h0 hm v) (ew_s0 sc) (Int.ofNat 170) = .inr (2, [.ref (v 4 1), .ref (v 4 2)]) := rfl
theorem ew_c171 (cI cZ cS : ClassId) (h0 hm : Nat) (v : Nat → Nat → Nat) : (ew_W cI cZ cS h0 hm v)[171]? = some (v 4 1, .inl (cI, 6, .inl (fun _ => 0))) := rfl
theorem ew_a171 (h0 hm : Nat) (v : Nat → Nat → Nat) : ew_ad h0 hm v (Int.ofNat 171) = v 4 1 := rfl
theorem ew_e171 (cI cZ cS : ClassId) (h0 hm : Nat) (v : Nat → Nat → Nat) (sc : Int → Int) : ev_e cI cZ cS (ew_ad h0 hm v) (ew_s0 sc) (Int.ofNat 171) = .inl (cI, 6, .inl (fun _ => 0)) := rfl
theorem ew_c172 (cI cZ cS : ClassId) (h0 hm : Nat) (v : Nat → Nat → Nat) : (ew_W cI cZ cS h0 hm v)[172]? = some (v 4 2, .inl (cI, 6, .inl (fun _ => 0))) := rfl
theorem ew_a172 (h0 hm : Nat) (v : Nat → Nat → Nat) : ew_ad h0 hm v (Int.ofNat 172) = v 4 2 := rfl
theorem ew_e172 (cI cZ cS : ClassId) (h0 hm : Nat) (v : Nat → Nat → Nat) (sc : Int → Int) : ev_e cI cZ cS (ew_ad h0 hm v) (ew_s0 sc) (Int.ofNat 172) = .inl (cI, 6, .inl (fun _ => 0)) := rfl
theorem ew_c173 (cI cZ cS : ClassId) (h0 hm : Nat) (v : Nat → Nat → Nat) : (ew_W cI cZ cS h0 hm v)[173]? = some (v 5 0, .inr (9, [.ref (v 5 1), .ref (v 5 2), .ref (v 5 3)])) := rfl
theorem ew_a173 (h0 hm : Nat) (v : Nat → Nat → Nat) : ew_ad h0 hm v (Int.ofNat 173) = v 5 0 := rfl
theorem ew_e173 (cI cZ cS : ClassId) (h0 hm : Nat) (v : Nat → Nat → Nat) (sc : Int → Int) : ev_e cI cZ cS (ew_ad h0 hm v) (ew_s0 sc) (Int.ofNat 173) = .inr (9, [.ref (v 5 1), .ref (v 5 2), .ref (v 5 3)]) := rfl
theorem ew_c174 (cI cZ cS : ClassId) (h0 hm : Nat) (v : Nat → Nat → Nat) : (ew_W cI cZ cS h0 hm v)[174]? = some (v 5 1, .inl (cI, 10, .inl (fun _ => 0))) := rfl
theorem ew_a174 (h0 hm : Nat) (v : Nat → Nat → Nat) : ew_ad h0 hm v (Int.ofNat 174) = v 5 1 := rfl
theorem ew_e174 (cI cZ cS : ClassId) (h0 hm : Nat) (v : Nat → Nat → Nat) (sc : Int → Int) : ev_e cI cZ cS (ew_ad h0 hm v) (ew_s0 sc) (Int.ofNat 174) = .inl (cI, 10, .inl (fun _ => 0)) := rfl
theorem ew_c175 (cI cZ cS : ClassId) (h0 hm : Nat) (v : Nat → Nat → Nat) : (ew_W cI cZ cS h0 hm v)[175]? = some (v 5 2, .inl (cI, 10, .inl (fun _ => 0))) := rfl
theorem ew_a175 (h0 hm : Nat) (v : Nat → Nat → Nat) : ew_ad h0 hm v (Int.ofNat 175) = v 5 2 := rfl
theorem ew_e175 (cI cZ cS : ClassId) (h0 hm : Nat) (v : Nat → Nat → Nat) (sc : Int → Int) : ev_e cI cZ cS (ew_ad h0 hm v) (ew_s0 sc) (Int.ofNat 175) = .inl (cI, 10, .inl (fun _ => 0)) := rfl
theorem ew_c176 (cI cZ cS : ClassId) (h0 hm : Nat) (v : Nat → Nat → Nat) : (ew_W cI cZ cS h0 hm v)[176]? = some (v 5 3, .inl (cI, 10, .inl (fun _ => 0))) := rfl
theorem ew_a176 (h0 hm : Nat) (v : Nat → Nat → Nat) : ew_ad h0 hm v (Int.ofNat 176) = v 5 3 := rfl
theorem ew_e176 (cI cZ cS : ClassId) (h0 hm : Nat) (v : Nat → Nat → Nat) (sc : Int → Int) : ev_e cI cZ cS (ew_ad h0 hm v) (ew_s0 sc) (Int.ofNat 176) = .inl (cI, 10, .inl (fun _ => 0)) := rfl
theorem ew_c177 (cI cZ cS : ClassId) (h0 hm : Nat) (v : Nat → Nat → Nat) : (ew_W cI cZ cS h0 hm v)[177]? = some (v 6 0, .inr (8, [.int 0, .ref (v 6 1)])) := rfl
theorem ew_a177 (h0 hm : Nat) (v : Nat → Nat → Nat) : ew_ad h0 hm v (Int.ofNat 177) = v 6 0 := rfl
theorem ew_e177 (cI cZ cS : ClassId) (h0 hm : Nat) (v : Nat → Nat → Nat) (sc : Int → Int) : ev_e cI cZ cS (ew_ad h0 hm v) (ew_s0 sc) (Int.ofNat 177) = .inr (8, [.int 0, .ref (v 6 1)]) := rfl
theorem ew_c178 (cI cZ cS : ClassId) (h0 hm : Nat) (v : Nat → Nat → Nat) : (ew_W cI cZ cS h0 hm v)[178]? = some (v 6 1, .inl (cI, 6, .inl (fun _ => 0))) := rfl
theorem ew_a178 (h0 hm : Nat) (v : Nat → Nat → Nat) : ew_ad h0 hm v (Int.ofNat 178) = v 6 1 := rfl
theorem ew_e178 (cI cZ cS : ClassId) (h0 hm : Nat) (v : Nat → Nat → Nat) (sc : Int → Int) : ev_e cI cZ cS (ew_ad h0 hm v) (ew_s0 sc) (Int.ofNat 178) = .inl (cI, 6, .inl (fun _ => 0)) := rfl
theorem ew_c179 (cI cZ cS : ClassId) (h0 hm : Nat) (v : Nat → Nat → Nat) : (ew_W cI cZ cS h0 hm v)[179]? = some (v 7 0, .inr (0, [.int 0, .ref (v 7 1), .ref (v 7 2)])) := rfl
theorem ew_a179 (h0 hm : Nat) (v : Nat → Nat → Nat) : ew_ad h0 hm v (Int.ofNat 179) = v 7 0 := rfl
theorem ew_e179 (cI cZ cS : ClassId) (h0 hm : Nat) (v : Nat → Nat → Nat) (sc : Int → Int) : ev_e cI cZ cS (ew_ad h0 hm v) (ew_s0 sc) (Int.ofNat 179) = .inr (0, [.int 0, .ref (v 7 1), .ref (v 7 2)]) := rfl
theorem ew_c180 (cI cZ cS : ClassId) (h0 hm : Nat) (v : Nat → Nat → Nat) : (ew_W cI cZ cS h0 hm v)[180]? = some (v 7 1, .inl (cI, 8, .inl (fun _ => 0))) := rfl
theorem ew_a180 (h0 hm : Nat) (v : Nat → Nat → Nat) : ew_ad h0 hm v (Int.ofNat 180) = v 7 1 := rfl
theorem ew_e180 (cI cZ cS : ClassId) (h0 hm : Nat) (v : Nat → Nat → Nat) (sc : Int → Int) : ev_e cI cZ cS (ew_ad h0 hm v) (ew_s0 sc) (Int.ofNat 180) = .inl (cI, 8, .inl (fun _ => 0)) := rfl
theorem ew_c181 (cI cZ cS : ClassId) (h0 hm : Nat) (v : Nat → Nat → Nat) : (ew_W cI cZ cS h0 hm v)[181]? = some (v 7 2, .inl (cI, 8, .inl (fun _ => 0))) := rfl
theorem ew_a181 (h0 hm : Nat) (v : Nat → Nat → Nat) : ew_ad h0 hm v (Int.ofNat 181) = v 7 2 := rfl
theorem ew_e181 (cI cZ cS : ClassId) (h0 hm : Nat) (v : Nat → Nat → Nat) (sc : Int → Int) : ev_e cI cZ cS (ew_ad h0 hm v) (ew_s0 sc) (Int.ofNat 181) = .inl (cI, 8, .inl (fun _ => 0)) := rfl
theorem ew_at_0 (cI cZ cS : ClassId) (h0 hm : Nat) (v : Nat → Nat → Nat) (sc : Int → Int) : ∀ k, 0 ≤ k → k < 20 → (ew_W cI cZ cS h0 hm v)[ew_pl.getD k 0]? = some (ew_ad h0 hm v (Int.ofNat k), ev_e cI cZ cS (ew_ad h0 hm v) (ew_s0 sc) (Int.ofNat k)) := by
  intro k h1 h2
  rcases (show k = 0 ∨ k = 1 ∨ k = 2 ∨ k = 3 ∨ k = 4 ∨ k = 5 ∨ k = 6 ∨ k = 7 ∨ k = 8 ∨ k = 9 ∨ k = 10 ∨ k = 11 ∨ k = 12 ∨ k = 13 ∨ k = 14 ∨ k = 15 ∨ k = 16 ∨ k = 17 ∨ k = 18 ∨ k = 19 by omega) with rfl | rfl | rfl | rfl | rfl | rfl | rfl | rfl | rfl | rfl | rfl | rfl | rfl | rfl | rfl | rfl | rfl | rfl | rfl | rfl
  · rw [ew_a0, ew_e0, show ew_pl.getD 0 0 = 1 from rfl]
    exact ew_c0 cI cZ cS h0 hm v
  · rw [ew_a1, ew_e1, show ew_pl.getD 1 0 = 2 from rfl]
    exact ew_c1 cI cZ cS h0 hm v
  · rw [ew_a2, ew_e2, show ew_pl.getD 2 0 = 3 from rfl]
    exact ew_c2 cI cZ cS h0 hm v
  · rw [ew_a3, ew_e3, show ew_pl.getD 3 0 = 4 from rfl]
    exact ew_c3 cI cZ cS h0 hm v
  · rw [ew_a4, ew_e4, show ew_pl.getD 4 0 = 5 from rfl]
    exact ew_c4 cI cZ cS h0 hm v
  · rw [ew_a5, ew_e5, show ew_pl.getD 5 0 = 6 from rfl]
    exact ew_c5 cI cZ cS h0 hm v
  · rw [ew_a6, ew_e6, show ew_pl.getD 6 0 = 7 from rfl]
    exact ew_c6 cI cZ cS h0 hm v
  · rw [ew_a7, ew_e7, show ew_pl.getD 7 0 = 8 from rfl]
    exact ew_c7 cI cZ cS h0 hm v
  · rw [ew_a8, ew_e8, show ew_pl.getD 8 0 = 9 from rfl]
    exact ew_c8 cI cZ cS h0 hm v
  · rw [ew_a9, ew_e9, show ew_pl.getD 9 0 = 10 from rfl]
    exact ew_c9 cI cZ cS h0 hm v
  · rw [ew_a10, ew_e10, show ew_pl.getD 10 0 = 11 from rfl]
    exact ew_c10 cI cZ cS h0 hm v
  · rw [ew_a11, ew_e11, show ew_pl.getD 11 0 = 12 from rfl]
    exact ew_c11 cI cZ cS h0 hm v
  · rw [ew_a12, ew_e12, show ew_pl.getD 12 0 = 13 from rfl]
    exact ew_c12 cI cZ cS h0 hm v
  · rw [ew_a13, ew_e13, show ew_pl.getD 13 0 = 14 from rfl]
    exact ew_c13 cI cZ cS h0 hm v
  · rw [ew_a14, ew_e14, show ew_pl.getD 14 0 = 15 from rfl]
    exact ew_c14 cI cZ cS h0 hm v
  · rw [ew_a15, ew_e15, show ew_pl.getD 15 0 = 16 from rfl]
    exact ew_c15 cI cZ cS h0 hm v
  · rw [ew_a16, ew_e16, show ew_pl.getD 16 0 = 17 from rfl]
    exact ew_c16 cI cZ cS h0 hm v
  · rw [ew_a17, ew_e17, show ew_pl.getD 17 0 = 18 from rfl]
    exact ew_c17 cI cZ cS h0 hm v
  · rw [ew_a18, ew_e18, show ew_pl.getD 18 0 = 19 from rfl]
    exact ew_c18 cI cZ cS h0 hm v
  · rw [ew_a19, ew_e19, show ew_pl.getD 19 0 = 20 from rfl]
    exact ew_c19 cI cZ cS h0 hm v
theorem ew_at_20 (cI cZ cS : ClassId) (h0 hm : Nat) (v : Nat → Nat → Nat) (sc : Int → Int) : ∀ k, 20 ≤ k → k < 40 → (ew_W cI cZ cS h0 hm v)[ew_pl.getD k 0]? = some (ew_ad h0 hm v (Int.ofNat k), ev_e cI cZ cS (ew_ad h0 hm v) (ew_s0 sc) (Int.ofNat k)) := by
  intro k h1 h2
  rcases (show k = 20 ∨ k = 21 ∨ k = 22 ∨ k = 23 ∨ k = 24 ∨ k = 25 ∨ k = 26 ∨ k = 27 ∨ k = 28 ∨ k = 29 ∨ k = 30 ∨ k = 31 ∨ k = 32 ∨ k = 33 ∨ k = 34 ∨ k = 35 ∨ k = 36 ∨ k = 37 ∨ k = 38 ∨ k = 39 by omega) with rfl | rfl | rfl | rfl | rfl | rfl | rfl | rfl | rfl | rfl | rfl | rfl | rfl | rfl | rfl | rfl | rfl | rfl | rfl | rfl
  · rw [ew_a20, ew_e20, show ew_pl.getD 20 0 = 21 from rfl]
    exact ew_c20 cI cZ cS h0 hm v
  · rw [ew_a21, ew_e21, show ew_pl.getD 21 0 = 22 from rfl]
    exact ew_c21 cI cZ cS h0 hm v
  · rw [ew_a22, ew_e22, show ew_pl.getD 22 0 = 23 from rfl]
    exact ew_c22 cI cZ cS h0 hm v
  · rw [ew_a23, ew_e23, show ew_pl.getD 23 0 = 24 from rfl]
    exact ew_c23 cI cZ cS h0 hm v
  · rw [ew_a24, ew_e24, show ew_pl.getD 24 0 = 25 from rfl]
    exact ew_c24 cI cZ cS h0 hm v
  · rw [ew_a25, ew_e25, show ew_pl.getD 25 0 = 26 from rfl]
    exact ew_c25 cI cZ cS h0 hm v
  · rw [ew_a26, ew_e26, show ew_pl.getD 26 0 = 27 from rfl]
    exact ew_c26 cI cZ cS h0 hm v
  · rw [ew_a27, ew_e27, show ew_pl.getD 27 0 = 28 from rfl]
    exact ew_c27 cI cZ cS h0 hm v
  · rw [ew_a28, ew_e28, show ew_pl.getD 28 0 = 29 from rfl]
    exact ew_c28 cI cZ cS h0 hm v
  · rw [ew_a29, ew_e29, show ew_pl.getD 29 0 = 30 from rfl]
    exact ew_c29 cI cZ cS h0 hm v
  · rw [ew_a30, ew_e30, show ew_pl.getD 30 0 = 31 from rfl]
    exact ew_c30 cI cZ cS h0 hm v
  · rw [ew_a31, ew_e31, show ew_pl.getD 31 0 = 32 from rfl]
    exact ew_c31 cI cZ cS h0 hm v
  · rw [ew_a32, ew_e32, show ew_pl.getD 32 0 = 33 from rfl]
    exact ew_c32 cI cZ cS h0 hm v
  · rw [ew_a33, ew_e33, show ew_pl.getD 33 0 = 34 from rfl]
    exact ew_c33 cI cZ cS h0 hm v
  · rw [ew_a34, ew_e34, show ew_pl.getD 34 0 = 35 from rfl]
    exact ew_c34 cI cZ cS h0 hm v
  · rw [ew_a35, ew_e35, show ew_pl.getD 35 0 = 36 from rfl]
    exact ew_c35 cI cZ cS h0 hm v
  · rw [ew_a36, ew_e36, show ew_pl.getD 36 0 = 37 from rfl]
    exact ew_c36 cI cZ cS h0 hm v
  · rw [ew_a37, ew_e37, show ew_pl.getD 37 0 = 38 from rfl]
    exact ew_c37 cI cZ cS h0 hm v
  · rw [ew_a38, ew_e38, show ew_pl.getD 38 0 = 39 from rfl]
    exact ew_c38 cI cZ cS h0 hm v
  · rw [ew_a39, ew_e39, show ew_pl.getD 39 0 = 40 from rfl]
    exact ew_c39 cI cZ cS h0 hm v
theorem ew_at_40 (cI cZ cS : ClassId) (h0 hm : Nat) (v : Nat → Nat → Nat) (sc : Int → Int) : ∀ k, 40 ≤ k → k < 60 → (ew_W cI cZ cS h0 hm v)[ew_pl.getD k 0]? = some (ew_ad h0 hm v (Int.ofNat k), ev_e cI cZ cS (ew_ad h0 hm v) (ew_s0 sc) (Int.ofNat k)) := by
  intro k h1 h2
  rcases (show k = 40 ∨ k = 41 ∨ k = 42 ∨ k = 43 ∨ k = 44 ∨ k = 45 ∨ k = 46 ∨ k = 47 ∨ k = 48 ∨ k = 49 ∨ k = 50 ∨ k = 51 ∨ k = 52 ∨ k = 53 ∨ k = 54 ∨ k = 55 ∨ k = 56 ∨ k = 57 ∨ k = 58 ∨ k = 59 by omega) with rfl | rfl | rfl | rfl | rfl | rfl | rfl | rfl | rfl | rfl | rfl | rfl | rfl | rfl | rfl | rfl | rfl | rfl | rfl | rfl
  · rw [ew_a40, ew_e40, show ew_pl.getD 40 0 = 41 from rfl]
    exact ew_c40 cI cZ cS h0 hm v
  · rw [ew_a41, ew_e41, show ew_pl.getD 41 0 = 42 from rfl]
    exact ew_c41 cI cZ cS h0 hm v
  · rw [ew_a42, ew_e42, show ew_pl.getD 42 0 = 43 from rfl]
    exact ew_c42 cI cZ cS h0 hm v
  · rw [ew_a43, ew_e43, show ew_pl.getD 43 0 = 44 from rfl]
    exact ew_c43 cI cZ cS h0 hm v
  · rw [ew_a44, ew_e44, show ew_pl.getD 44 0 = 45 from rfl]
    exact ew_c44 cI cZ cS h0 hm v
  · rw [ew_a45, ew_e45, show ew_pl.getD 45 0 = 46 from rfl]
    exact ew_c45 cI cZ cS h0 hm v
  · rw [ew_a46, ew_e46, show ew_pl.getD 46 0 = 49 from rfl]
    exact ew_c46 cI cZ cS h0 hm v
  · rw [ew_a47, ew_e47, show ew_pl.getD 47 0 = 50 from rfl]
    exact ew_c47 cI cZ cS h0 hm v
  · rw [ew_a48, ew_e48, show ew_pl.getD 48 0 = 51 from rfl]
    exact ew_c48 cI cZ cS h0 hm v
  · rw [ew_a49, ew_e49, show ew_pl.getD 49 0 = 52 from rfl]
    exact ew_c49 cI cZ cS h0 hm v
  · rw [ew_a50, ew_e50, show ew_pl.getD 50 0 = 53 from rfl]
    exact ew_c50 cI cZ cS h0 hm v
  · rw [ew_a51, ew_e51, show ew_pl.getD 51 0 = 54 from rfl]
    exact ew_c51 cI cZ cS h0 hm v
  · rw [ew_a52, ew_e52, show ew_pl.getD 52 0 = 55 from rfl]
    exact ew_c52 cI cZ cS h0 hm v
  · rw [ew_a53, ew_e53, show ew_pl.getD 53 0 = 56 from rfl]
    exact ew_c53 cI cZ cS h0 hm v
  · rw [ew_a54, ew_e54, show ew_pl.getD 54 0 = 57 from rfl]
    exact ew_c54 cI cZ cS h0 hm v
  · rw [ew_a55, ew_e55, show ew_pl.getD 55 0 = 58 from rfl]
    exact ew_c55 cI cZ cS h0 hm v
  · rw [ew_a56, ew_e56, show ew_pl.getD 56 0 = 59 from rfl]
    exact ew_c56 cI cZ cS h0 hm v
  · rw [ew_a57, ew_e57, show ew_pl.getD 57 0 = 60 from rfl]
    exact ew_c57 cI cZ cS h0 hm v
  · rw [ew_a58, ew_e58, show ew_pl.getD 58 0 = 61 from rfl]
    exact ew_c58 cI cZ cS h0 hm v
  · rw [ew_a59, ew_e59, show ew_pl.getD 59 0 = 62 from rfl]
    exact ew_c59 cI cZ cS h0 hm v
theorem ew_at_60 (cI cZ cS : ClassId) (h0 hm : Nat) (v : Nat → Nat → Nat) (sc : Int → Int) : ∀ k, 60 ≤ k → k < 80 → (ew_W cI cZ cS h0 hm v)[ew_pl.getD k 0]? = some (ew_ad h0 hm v (Int.ofNat k), ev_e cI cZ cS (ew_ad h0 hm v) (ew_s0 sc) (Int.ofNat k)) := by
  intro k h1 h2
  rcases (show k = 60 ∨ k = 61 ∨ k = 62 ∨ k = 63 ∨ k = 64 ∨ k = 65 ∨ k = 66 ∨ k = 67 ∨ k = 68 ∨ k = 69 ∨ k = 70 ∨ k = 71 ∨ k = 72 ∨ k = 73 ∨ k = 74 ∨ k = 75 ∨ k = 76 ∨ k = 77 ∨ k = 78 ∨ k = 79 by omega) with rfl | rfl | rfl | rfl | rfl | rfl | rfl | rfl | rfl | rfl | rfl | rfl | rfl | rfl | rfl | rfl | rfl | rfl | rfl | rfl
  · rw [ew_a60, ew_e60, show ew_pl.getD 60 0 = 63 from rfl]
    exact ew_c60 cI cZ cS h0 hm v
  · rw [ew_a61, ew_e61, show ew_pl.getD 61 0 = 64 from rfl]
    exact ew_c61 cI cZ cS h0 hm v
  · rw [ew_a62, ew_e62, show ew_pl.getD 62 0 = 65 from rfl]
    exact ew_c62 cI cZ cS h0 hm v
  · rw [ew_a63, ew_e63, show ew_pl.getD 63 0 = 66 from rfl]
    exact ew_c63 cI cZ cS h0 hm v
  · rw [ew_a64, ew_e64, show ew_pl.getD 64 0 = 67 from rfl]
    exact ew_c64 cI cZ cS h0 hm v
  · rw [ew_a65, ew_e65, show ew_pl.getD 65 0 = 68 from rfl]
    exact ew_c65 cI cZ cS h0 hm v
  · rw [ew_a66, ew_e66, show ew_pl.getD 66 0 = 69 from rfl]
    exact ew_c66 cI cZ cS h0 hm v
  · rw [ew_a67, ew_e67, show ew_pl.getD 67 0 = 70 from rfl]
    exact ew_c67 cI cZ cS h0 hm v
  · rw [ew_a68, ew_e68, show ew_pl.getD 68 0 = 71 from rfl]
    exact ew_c68 cI cZ cS h0 hm v
  · rw [ew_a69, ew_e69, show ew_pl.getD 69 0 = 72 from rfl]
    exact ew_c69 cI cZ cS h0 hm v
  · rw [ew_a70, ew_e70, show ew_pl.getD 70 0 = 73 from rfl]
    exact ew_c70 cI cZ cS h0 hm v
  · rw [ew_a71, ew_e71, show ew_pl.getD 71 0 = 74 from rfl]
    exact ew_c71 cI cZ cS h0 hm v
  · rw [ew_a72, ew_e72, show ew_pl.getD 72 0 = 75 from rfl]
    exact ew_c72 cI cZ cS h0 hm v
  · rw [ew_a73, ew_e73, show ew_pl.getD 73 0 = 76 from rfl]
    exact ew_c73 cI cZ cS h0 hm v
  · rw [ew_a74, ew_e74, show ew_pl.getD 74 0 = 77 from rfl]
    exact ew_c74 cI cZ cS h0 hm v
  · rw [ew_a75, ew_e75, show ew_pl.getD 75 0 = 78 from rfl]
    exact ew_c75 cI cZ cS h0 hm v
  · rw [ew_a76, ew_e76, show ew_pl.getD 76 0 = 79 from rfl]
    exact ew_c76 cI cZ cS h0 hm v
  · rw [ew_a77, ew_e77, show ew_pl.getD 77 0 = 80 from rfl]
    exact ew_c77 cI cZ cS h0 hm v
  · rw [ew_a78, ew_e78, show ew_pl.getD 78 0 = 81 from rfl]
    exact ew_c78 cI cZ cS h0 hm v
  · rw [ew_a79, ew_e79, show ew_pl.getD 79 0 = 82 from rfl]
    exact ew_c79 cI cZ cS h0 hm v
theorem ew_at_80 (cI cZ cS : ClassId) (h0 hm : Nat) (v : Nat → Nat → Nat) (sc : Int → Int) : ∀ k, 80 ≤ k → k < 100 → (ew_W cI cZ cS h0 hm v)[ew_pl.getD k 0]? = some (ew_ad h0 hm v (Int.ofNat k), ev_e cI cZ cS (ew_ad h0 hm v) (ew_s0 sc) (Int.ofNat k)) := by
  intro k h1 h2
  rcases (show k = 80 ∨ k = 81 ∨ k = 82 ∨ k = 83 ∨ k = 84 ∨ k = 85 ∨ k = 86 ∨ k = 87 ∨ k = 88 ∨ k = 89 ∨ k = 90 ∨ k = 91 ∨ k = 92 ∨ k = 93 ∨ k = 94 ∨ k = 95 ∨ k = 96 ∨ k = 97 ∨ k = 98 ∨ k = 99 by omega) with rfl | rfl | rfl | rfl | rfl | rfl | rfl | rfl | rfl | rfl | rfl | rfl | rfl | rfl | rfl | rfl | rfl | rfl | rfl | rfl
  · rw [ew_a80, ew_e80, show ew_pl.getD 80 0 = 83 from rfl]
    exact ew_c80 cI cZ cS h0 hm v
  · rw [ew_a81, ew_e81, show ew_pl.getD 81 0 = 84 from rfl]
    exact ew_c81 cI cZ cS h0 hm v
  · rw [ew_a82, ew_e82, show ew_pl.getD 82 0 = 85 from rfl]
    exact ew_c82 cI cZ cS h0 hm v
  · rw [ew_a83, ew_e83, show ew_pl.getD 83 0 = 86 from rfl]
    exact ew_c83 cI cZ cS h0 hm v
  · rw [ew_a84, ew_e84, show ew_pl.getD 84 0 = 87 from rfl]
    exact ew_c84 cI cZ cS h0 hm v
  · rw [ew_a85, ew_e85, show ew_pl.getD 85 0 = 88 from rfl]
    exact ew_c85 cI cZ cS h0 hm v
  · rw [ew_a86, ew_e86, show ew_pl.getD 86 0 = 89 from rfl]
    exact ew_c86 cI cZ cS h0 hm v
  · rw [ew_a87, ew_e87, show ew_pl.getD 87 0 = 90 from rfl]
    exact ew_c87 cI cZ cS h0 hm v
  · rw [ew_a88, ew_e88, show ew_pl.getD 88 0 = 91 from rfl]
    exact ew_c88 cI cZ cS h0 hm v
  · rw [ew_a89, ew_e89, show ew_pl.getD 89 0 = 92 from rfl]
    exact ew_c89 cI cZ cS h0 hm v
  · rw [ew_a90, ew_e90, show ew_pl.getD 90 0 = 93 from rfl]
    exact ew_c90 cI cZ cS h0 hm v
  · rw [ew_a91, ew_e91, show ew_pl.getD 91 0 = 94 from rfl]
    exact ew_c91 cI cZ cS h0 hm v
  · rw [ew_a92, ew_e92, show ew_pl.getD 92 0 = 95 from rfl]
    exact ew_c92 cI cZ cS h0 hm v
  · rw [ew_a93, ew_e93, show ew_pl.getD 93 0 = 96 from rfl]
    exact ew_c93 cI cZ cS h0 hm v
  · rw [ew_a94, ew_e94, show ew_pl.getD 94 0 = 97 from rfl]
    exact ew_c94 cI cZ cS h0 hm v
  · rw [ew_a95, ew_e95, show ew_pl.getD 95 0 = 98 from rfl]
    exact ew_c95 cI cZ cS h0 hm v
  · rw [ew_a96, ew_e96, show ew_pl.getD 96 0 = 99 from rfl]
    exact ew_c96 cI cZ cS h0 hm v
  · rw [ew_a97, ew_e97, show ew_pl.getD 97 0 = 100 from rfl]
    exact ew_c97 cI cZ cS h0 hm v
  · rw [ew_a98, ew_e98, show ew_pl.getD 98 0 = 101 from rfl]
    exact ew_c98 cI cZ cS h0 hm v
  · rw [ew_a99, ew_e99, show ew_pl.getD 99 0 = 102 from rfl]
    exact ew_c99 cI cZ cS h0 hm v
theorem ew_at_100 (cI cZ cS : ClassId) (h0 hm : Nat) (v : Nat → Nat → Nat) (sc : Int → Int) : ∀ k, 100 ≤ k → k < 120 → (ew_W cI cZ cS h0 hm v)[ew_pl.getD k 0]? = some (ew_ad h0 hm v (Int.ofNat k), ev_e cI cZ cS (ew_ad h0 hm v) (ew_s0 sc) (Int.ofNat k)) := by
  intro k h1 h2
  rcases (show k = 100 ∨ k = 101 ∨ k = 102 ∨ k = 103 ∨ k = 104 ∨ k = 105 ∨ k = 106 ∨ k = 107 ∨ k = 108 ∨ k = 109 ∨ k = 110 ∨ k = 111 ∨ k = 112 ∨ k = 113 ∨ k = 114 ∨ k = 115 ∨ k = 116 ∨ k = 117 ∨ k = 118 ∨ k = 119 by omega) with rfl | rfl | rfl | rfl | rfl | rfl | rfl | rfl | rfl | rfl | rfl | rfl | rfl | rfl | rfl | rfl | rfl | rfl | rfl | rfl
  · rw [ew_a100, ew_e100, show ew_pl.getD 100 0 = 103 from rfl]
    exact ew_c100 cI cZ cS h0 hm v
  · rw [ew_a101, ew_e101, show ew_pl.getD 101 0 = 104 from rfl]
    exact ew_c101 cI cZ cS h0 hm v
  · rw [ew_a102, ew_e102, show ew_pl.getD 102 0 = 105 from rfl]
    exact ew_c102 cI cZ cS h0 hm v
  · rw [ew_a103, ew_e103, show ew_pl.getD 103 0 = 106 from rfl]
    exact ew_c103 cI cZ cS h0 hm v
  · rw [ew_a104, ew_e104, show ew_pl.getD 104 0 = 107 from rfl]
    exact ew_c104 cI cZ cS h0 hm v
  · rw [ew_a105, ew_e105, show ew_pl.getD 105 0 = 108 from rfl]
    exact ew_c105 cI cZ cS h0 hm v
  · rw [ew_a106, ew_e106, show ew_pl.getD 106 0 = 109 from rfl]
    exact ew_c106 cI cZ cS h0 hm v
  · rw [ew_a107, ew_e107, show ew_pl.getD 107 0 = 110 from rfl]
    exact ew_c107 cI cZ cS h0 hm v
  · rw [ew_a108, ew_e108, show ew_pl.getD 108 0 = 111 from rfl]
    exact ew_c108 cI cZ cS h0 hm v
  · rw [ew_a109, ew_e109, show ew_pl.getD 109 0 = 112 from rfl]
    exact ew_c109 cI cZ cS h0 hm v
  · rw [ew_a110, ew_e110, show ew_pl.getD 110 0 = 113 from rfl]
    exact ew_c110 cI cZ cS h0 hm v
  · rw [ew_a111, ew_e111, show ew_pl.getD 111 0 = 114 from rfl]
    exact ew_c111 cI cZ cS h0 hm v
  · rw [ew_a112, ew_e112, show ew_pl.getD 112 0 = 115 from rfl]
    exact ew_c112 cI cZ cS h0 hm v
  · rw [ew_a113, ew_e113, show ew_pl.getD 113 0 = 116 from rfl]
    exact ew_c113 cI cZ cS h0 hm v
  · rw [ew_a114, ew_e114, show ew_pl.getD 114 0 = 117 from rfl]
    exact ew_c114 cI cZ cS h0 hm v
  · rw [ew_a115, ew_e115, show ew_pl.getD 115 0 = 118 from rfl]
    exact ew_c115 cI cZ cS h0 hm v
  · rw [ew_a116, ew_e116, show ew_pl.getD 116 0 = 119 from rfl]
    exact ew_c116 cI cZ cS h0 hm v
  · rw [ew_a117, ew_e117, show ew_pl.getD 117 0 = 120 from rfl]
    exact ew_c117 cI cZ cS h0 hm v
  · rw [ew_a118, ew_e118, show ew_pl.getD 118 0 = 121 from rfl]
    exact ew_c118 cI cZ cS h0 hm v
  · rw [ew_a119, ew_e119, show ew_pl.getD 119 0 = 122 from rfl]
    exact ew_c119 cI cZ cS h0 hm v
theorem ew_at_120 (cI cZ cS : ClassId) (h0 hm : Nat) (v : Nat → Nat → Nat) (sc : Int → Int) : ∀ k, 120 ≤ k → k < 140 → (ew_W cI cZ cS h0 hm v)[ew_pl.getD k 0]? = some (ew_ad h0 hm v (Int.ofNat k), ev_e cI cZ cS (ew_ad h0 hm v) (ew_s0 sc) (Int.ofNat k)) := by
  intro k h1 h2
  rcases (show k = 120 ∨ k = 121 ∨ k = 122 ∨ k = 123 ∨ k = 124 ∨ k = 125 ∨ k = 126 ∨ k = 127 ∨ k = 128 ∨ k = 129 ∨ k = 130 ∨ k = 131 ∨ k = 132 ∨ k = 133 ∨ k = 134 ∨ k = 135 ∨ k = 136 ∨ k = 137 ∨ k = 138 ∨ k = 139 by omega) with rfl | rfl | rfl | rfl | rfl | rfl | rfl | rfl | rfl | rfl | rfl | rfl | rfl | rfl | rfl | rfl | rfl | rfl | rfl | rfl
  · rw [ew_a120, ew_e120, show ew_pl.getD 120 0 = 123 from rfl]
    exact ew_c120 cI cZ cS h0 hm v
  · rw [ew_a121, ew_e121, show ew_pl.getD 121 0 = 124 from rfl]
    exact ew_c121 cI cZ cS h0 hm v
  · rw [ew_a122, ew_e122, show ew_pl.getD 122 0 = 125 from rfl]
    exact ew_c122 cI cZ cS h0 hm v
  · rw [ew_a123, ew_e123, show ew_pl.getD 123 0 = 126 from rfl]
    exact ew_c123 cI cZ cS h0 hm v
  · rw [ew_a124, ew_e124, show ew_pl.getD 124 0 = 127 from rfl]
    exact ew_c124 cI cZ cS h0 hm v
  · rw [ew_a125, ew_e125, show ew_pl.getD 125 0 = 128 from rfl]
    exact ew_c125 cI cZ cS h0 hm v
  · rw [ew_a126, ew_e126, show ew_pl.getD 126 0 = 129 from rfl]
    exact ew_c126 cI cZ cS h0 hm v
  · rw [ew_a127, ew_e127, show ew_pl.getD 127 0 = 130 from rfl]
    exact ew_c127 cI cZ cS h0 hm v
  · rw [ew_a128, ew_e128, show ew_pl.getD 128 0 = 131 from rfl]
    exact ew_c128 cI cZ cS h0 hm v
  · rw [ew_a129, ew_e129, show ew_pl.getD 129 0 = 132 from rfl]
    exact ew_c129 cI cZ cS h0 hm v
  · rw [ew_a130, ew_e130, show ew_pl.getD 130 0 = 133 from rfl]
    exact ew_c130 cI cZ cS h0 hm v
  · rw [ew_a131, ew_e131, show ew_pl.getD 131 0 = 134 from rfl]
    exact ew_c131 cI cZ cS h0 hm v
  · rw [ew_a132, ew_e132, show ew_pl.getD 132 0 = 135 from rfl]
    exact ew_c132 cI cZ cS h0 hm v
  · rw [ew_a133, ew_e133, show ew_pl.getD 133 0 = 136 from rfl]
    exact ew_c133 cI cZ cS h0 hm v
  · rw [ew_a134, ew_e134, show ew_pl.getD 134 0 = 137 from rfl]
    exact ew_c134 cI cZ cS h0 hm v
  · rw [ew_a135, ew_e135, show ew_pl.getD 135 0 = 138 from rfl]
    exact ew_c135 cI cZ cS h0 hm v
  · rw [ew_a136, ew_e136, show ew_pl.getD 136 0 = 139 from rfl]
    exact ew_c136 cI cZ cS h0 hm v
  · rw [ew_a137, ew_e137, show ew_pl.getD 137 0 = 140 from rfl]
    exact ew_c137 cI cZ cS h0 hm v
  · rw [ew_a138, ew_e138, show ew_pl.getD 138 0 = 141 from rfl]
    exact ew_c138 cI cZ cS h0 hm v
  · rw [ew_a139, ew_e139, show ew_pl.getD 139 0 = 142 from rfl]
    exact ew_c139 cI cZ cS h0 hm v
theorem ew_at_140 (cI cZ cS : ClassId) (h0 hm : Nat) (v : Nat → Nat → Nat) (sc : Int → Int) : ∀ k, 140 ≤ k → k < 160 → (ew_W cI cZ cS h0 hm v)[ew_pl.getD k 0]? = some (ew_ad h0 hm v (Int.ofNat k), ev_e cI cZ cS (ew_ad h0 hm v) (ew_s0 sc) (Int.ofNat k)) := by
  intro k h1 h2
  rcases (show k = 140 ∨ k = 141 ∨ k = 142 ∨ k = 143 ∨ k = 144 ∨ k = 145 ∨ k = 146 ∨ k = 147 ∨ k = 148 ∨ k = 149 ∨ k = 150 ∨ k = 151 ∨ k = 152 ∨ k = 153 ∨ k = 154 ∨ k = 155 ∨ k = 156 ∨ k = 157 ∨ k = 158 ∨ k = 159 by omega) with rfl | rfl | rfl | rfl | rfl | rfl | rfl | rfl | rfl | rfl | rfl | rfl | rfl | rfl | rfl | rfl | rfl | rfl | rfl | rfl
  · rw [ew_a140, ew_e140, show ew_pl.getD 140 0 = 143 from rfl]
    exact ew_c140 cI cZ cS h0 hm v
  · rw [ew_a141, ew_e141, show ew_pl.getD 141 0 = 144 from rfl]
    exact ew_c141 cI cZ cS h0 hm v
  · rw [ew_a142, ew_e142, show ew_pl.getD 142 0 = 145 from rfl]
    exact ew_c142 cI cZ cS h0 hm v
  · rw [ew_a143, ew_e143, show ew_pl.getD 143 0 = 146 from rfl]
    exact ew_c143 cI cZ cS h0 hm v
  · rw [ew_a144, ew_e144, show ew_pl.getD 144 0 = 147 from rfl]
    exact ew_c144 cI cZ cS h0 hm v
  · rw [ew_a145, ew_e145, show ew_pl.getD 145 0 = 148 from rfl]
    exact ew_c145 cI cZ cS h0 hm v
  · rw [ew_a146, ew_e146, show ew_pl.getD 146 0 = 149 from rfl]
    exact ew_c146 cI cZ cS h0 hm v
  · rw [ew_a147, ew_e147, show ew_pl.getD 147 0 = 150 from rfl]
    exact ew_c147 cI cZ cS h0 hm v
  · rw [ew_a148, ew_e148, show ew_pl.getD 148 0 = 151 from rfl]
    exact ew_c148 cI cZ cS h0 hm v
  · rw [ew_a149, ew_e149, show ew_pl.getD 149 0 = 152 from rfl]
    exact ew_c149 cI cZ cS h0 hm v
  · rw [ew_a150, ew_e150, show ew_pl.getD 150 0 = 153 from rfl]
    exact ew_c150 cI cZ cS h0 hm v
  · rw [ew_a151, ew_e151, show ew_pl.getD 151 0 = 154 from rfl]
    exact ew_c151 cI cZ cS h0 hm v
  · rw [ew_a152, ew_e152, show ew_pl.getD 152 0 = 155 from rfl]
    exact ew_c152 cI cZ cS h0 hm v
  · rw [ew_a153, ew_e153, show ew_pl.getD 153 0 = 156 from rfl]
    exact ew_c153 cI cZ cS h0 hm v
  · rw [ew_a154, ew_e154, show ew_pl.getD 154 0 = 157 from rfl]
    exact ew_c154 cI cZ cS h0 hm v
  · rw [ew_a155, ew_e155, show ew_pl.getD 155 0 = 158 from rfl]
    exact ew_c155 cI cZ cS h0 hm v
  · rw [ew_a156, ew_e156, show ew_pl.getD 156 0 = 159 from rfl]
    exact ew_c156 cI cZ cS h0 hm v
  · rw [ew_a157, ew_e157, show ew_pl.getD 157 0 = 160 from rfl]
    exact ew_c157 cI cZ cS h0 hm v
  · rw [ew_a158, ew_e158, show ew_pl.getD 158 0 = 161 from rfl]
    exact ew_c158 cI cZ cS h0 hm v
  · rw [ew_a159, ew_e159, show ew_pl.getD 159 0 = 162 from rfl]
    exact ew_c159 cI cZ cS h0 hm v
theorem ew_at_160 (cI cZ cS : ClassId) (h0 hm : Nat) (v : Nat → Nat → Nat) (sc : Int → Int) : ∀ k, 160 ≤ k → k < 180 → (ew_W cI cZ cS h0 hm v)[ew_pl.getD k 0]? = some (ew_ad h0 hm v (Int.ofNat k), ev_e cI cZ cS (ew_ad h0 hm v) (ew_s0 sc) (Int.ofNat k)) := by
  intro k h1 h2
  rcases (show k = 160 ∨ k = 161 ∨ k = 162 ∨ k = 163 ∨ k = 164 ∨ k = 165 ∨ k = 166 ∨ k = 167 ∨ k = 168 ∨ k = 169 ∨ k = 170 ∨ k = 171 ∨ k = 172 ∨ k = 173 ∨ k = 174 ∨ k = 175 ∨ k = 176 ∨ k = 177 ∨ k = 178 ∨ k = 179 by omega) with rfl | rfl | rfl | rfl | rfl | rfl | rfl | rfl | rfl | rfl | rfl | rfl | rfl | rfl | rfl | rfl | rfl | rfl | rfl | rfl
  · rw [ew_a160, ew_e160, show ew_pl.getD 160 0 = 163 from rfl]
    exact ew_c160 cI cZ cS h0 hm v
  · rw [ew_a161, ew_e161, show ew_pl.getD 161 0 = 0 from rfl]
    exact ew_c161 cI cZ cS h0 hm v
  · rw [ew_a162, ew_e162, show ew_pl.getD 162 0 = 47 from rfl]
    exact ew_c162 cI cZ cS h0 hm v
  · rw [ew_a163, ew_e163, show ew_pl.getD 163 0 = 48 from rfl]
    exact ew_c163 cI cZ cS h0 hm v
  · rw [ew_a164, ew_e164, show ew_pl.getD 164 0 = 164 from rfl]
    exact ew_c164 cI cZ cS h0 hm v
  · rw [ew_a165, ew_e165, show ew_pl.getD 165 0 = 165 from rfl]
    exact ew_c165 cI cZ cS h0 hm v
  · rw [ew_a166, ew_e166, show ew_pl.getD 166 0 = 166 from rfl]
    exact ew_c166 cI cZ cS h0 hm v
  · rw [ew_a167, ew_e167, show ew_pl.getD 167 0 = 167 from rfl]
    exact ew_c167 cI cZ cS h0 hm v
  · rw [ew_a168, ew_e168, show ew_pl.getD 168 0 = 168 from rfl]
    exact ew_c168 cI cZ cS h0 hm v
  · rw [ew_a169, ew_e169, show ew_pl.getD 169 0 = 169 from rfl]
    exact ew_c169 cI cZ cS h0 hm v
  · rw [ew_a170, ew_e170, show ew_pl.getD 170 0 = 170 from rfl]
    exact ew_c170 cI cZ cS h0 hm v
  · rw [ew_a171, ew_e171, show ew_pl.getD 171 0 = 171 from rfl]
    exact ew_c171 cI cZ cS h0 hm v
  · rw [ew_a172, ew_e172, show ew_pl.getD 172 0 = 172 from rfl]
    exact ew_c172 cI cZ cS h0 hm v
  · rw [ew_a173, ew_e173, show ew_pl.getD 173 0 = 173 from rfl]
    exact ew_c173 cI cZ cS h0 hm v
  · rw [ew_a174, ew_e174, show ew_pl.getD 174 0 = 174 from rfl]
    exact ew_c174 cI cZ cS h0 hm v
  · rw [ew_a175, ew_e175, show ew_pl.getD 175 0 = 175 from rfl]
    exact ew_c175 cI cZ cS h0 hm v
  · rw [ew_a176, ew_e176, show ew_pl.getD 176 0 = 176 from rfl]
    exact ew_c176 cI cZ cS h0 hm v
  · rw [ew_a177, ew_e177, show ew_pl.getD 177 0 = 177 from rfl]
    exact ew_c177 cI cZ cS h0 hm v
  · rw [ew_a178, ew_e178, show ew_pl.getD 178 0 = 178 from rfl]
    exact ew_c178 cI cZ cS h0 hm v
  · rw [ew_a179, ew_e179, show ew_pl.getD 179 0 = 179 from rfl]
    exact ew_c179 cI cZ cS h0 hm v
theorem ew_at_180 (cI cZ cS : ClassId) (h0 hm : Nat) (v : Nat → Nat → Nat) (sc : Int → Int) : ∀ k, 180 ≤ k → k < 182 → (ew_W cI cZ cS h0 hm v)[ew_pl.getD k 0]? = some (ew_ad h0 hm v (Int.ofNat k), ev_e cI cZ cS (ew_ad h0 hm v) (ew_s0 sc) (Int.ofNat k)) := by
  intro k h1 h2
  rcases (show k = 180 ∨ k = 181 by omega) with rfl | rfl
  · rw [ew_a180, ew_e180, show ew_pl.getD 180 0 = 180 from rfl]
    exact ew_c180 cI cZ cS h0 hm v
  · rw [ew_a181, ew_e181, show ew_pl.getD 181 0 = 181 from rfl]
    exact ew_c181 cI cZ cS h0 hm v
theorem ew_at (cI cZ cS : ClassId) (h0 hm : Nat) (v : Nat → Nat → Nat) (sc : Int → Int) (k : Nat) (hk : k < 182) : (ew_W cI cZ cS h0 hm v)[ew_pl.getD k 0]? = some (ew_ad h0 hm v (Int.ofNat k), ev_e cI cZ cS (ew_ad h0 hm v) (ew_s0 sc) (Int.ofNat k)) := by
  by_cases c0 : k < 20
  · exact ew_at_0 cI cZ cS h0 hm v sc k (by omega) c0
  by_cases c20 : k < 40
  · exact ew_at_20 cI cZ cS h0 hm v sc k (by omega) c20
  by_cases c40 : k < 60
  · exact ew_at_40 cI cZ cS h0 hm v sc k (by omega) c40
  by_cases c60 : k < 80
  · exact ew_at_60 cI cZ cS h0 hm v sc k (by omega) c60
  by_cases c80 : k < 100
  · exact ew_at_80 cI cZ cS h0 hm v sc k (by omega) c80
  by_cases c100 : k < 120
  · exact ew_at_100 cI cZ cS h0 hm v sc k (by omega) c100
  by_cases c120 : k < 140
  · exact ew_at_120 cI cZ cS h0 hm v sc k (by omega) c120
  by_cases c140 : k < 160
  · exact ew_at_140 cI cZ cS h0 hm v sc k (by omega) c140
  by_cases c160 : k < 180
  · exact ew_at_160 cI cZ cS h0 hm v sc k (by omega) c160
  by_cases c180 : k < 182
  · exact ew_at_180 cI cZ cS h0 hm v sc k (by omega) c180
  omega
theorem ew_start (sc : Int → Int) (hm : Nat) {D : va_G} {cI cZ cS : ClassId} {A : Nat → Prop} {h0 : Nat} {v : Nat → Nat → Nat} {H : Heap} (hP : va_P D vwCl (ew_w10 cI cZ cS h0 v) H) (hD : va_D A (ew_w10 cI cZ cS h0 v)) : va_P D vwCl (ev_wd cI cZ cS (ew_ad h0 hm v) (ew_s0 sc)) H ∧ ∀ σ, va_D A (ev_wd cI cZ cS (ew_ad h0 hm v) σ) := by
  rw [ew_flat cI cZ cS h0 hm v] at hP hD
  have hP2 : va_P D vwCl (ew_W cI cZ cS h0 hm v) H := ew_congr (k := 48) hP rfl (fun j hj => by rcases (show j = 0 ∨ j = 1 ∨ j = 2 ∨ j = 3 ∨ j = 4 by omega) with rfl | rfl | rfl | rfl | rfl <;> rfl)
  have hD2 : va_D A (ew_W cI cZ cS h0 hm v) := hD.set (p := 48) (e := .inl (cS, 5, .inr (.inr (.inr (.inr (fun j => some (ew_ad h0 hm v (46 + 23 * (j : Int))))))))) rfl
  refine ⟨fun k q hq => ?_, fun σ => ev_wd_D (fun i i0 i1 => ?_) (fun i j i0 i1 j0 j1 h => ?_) σ⟩
  · have hk : k < 182 := by
      have := (List.getElem?_eq_some_iff.mp hq).1
      simpa [ev_wd] using this
    have h2 := ev_wd_get cI cZ cS (ew_ad h0 hm v) (ew_s0 sc) (i := (k : Int)) (by omega)
    rw [show ((k : Int).toNat) = k by omega, hq] at h2
    cases h2
    exact hP2 _ _ (ew_at cI cZ cS h0 hm v sc k hk)
  · have h1 := hD2.2 _ _ (ew_at cI cZ cS h0 hm v sc i.toNat (by omega))
    rw [show Int.ofNat i.toNat = i by show ((i.toNat : Nat) : Int) = i; omega] at h1
    exact h1
  · have e1 := ew_at cI cZ cS h0 hm v sc i.toNat (by omega)
    have e2 := ew_at cI cZ cS h0 hm v sc j.toNat (by omega)
    rw [show Int.ofNat i.toNat = i by show ((i.toNat : Nat) : Int) = i; omega] at e1
    rw [show Int.ofNat j.toNat = j by show ((j.toNat : Nat) : Int) = j; omega] at e2
    have h3 := hD2.1 _ _ _ _ e1 e2 h
    have h4 := ew_iv_ok i.toNat (by omega)
    have h5 := ew_iv_ok j.toNat (by omega)
    rw [h3, h5] at h4
    omega
