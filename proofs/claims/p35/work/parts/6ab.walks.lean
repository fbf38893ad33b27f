set_option maxHeartbeats 40000000 in
set_option maxRecDepth 100000 in
theorem fx_X2_number_5 (l : Launch) (g : dkG) (z : Nat) (I0 : dkI) (p0 : Int32) (p1 : Int32) (dp0 : dkN [(3, 3)] p0) (dp1 : dkN [(9, 9)] p1)  (hO : dkOk I0) : Met l yX2_number wsX2_number (dkR 1) (dkPc g z [.ref (z + 12), .int p0, .int p1] I0) (dkQi g z (fun r I1 => dkF [(12, 12, 2, 2), (12, 12, 4, 5)] I0 I1 ∧ dkOk I1 ∧ ((dkN [(-1000000, -1000000)] r ∧ dkN [(0, 90)] (I1 12 4) ∧ dkN [(1, 1)] (I1 12 5) ∧ (I0 12 1).toInt + 0 ≤ (I0 12 2).toInt ∧ r = (-1000000) ∧ I1 12 2 = I0 12 2 ∧ I1 12 4 = I0 12 2 ∧ I1 12 5 = 1 ∧ True) ∨ (dkN [(-1000000, -1000000)] r ∧ dkN [(1, 90)] (I1 12 1) ∧ dkN [(0, 89)] (I1 12 2) ∧ dkN [(0, 90)] (I1 12 4) ∧ dkN [(1, 1)] (I1 12 5) ∧ (I0 12 2).toInt + 1 ≤ (I0 12 1).toInt ∧ (I0 13 (Int32.toNatClampNeg (I0 12 2))).toInt + 1 ≤ (48 : Int) ∧ r = (-1000000) ∧ I1 12 2 = I0 12 2 ∧ I1 12 4 = I0 12 2 ∧ I1 12 5 = 1 ∧ True) ∨ (dkN [(-1000000, -1000000)] r ∧ dkN [(1, 90)] (I1 12 1) ∧ dkN [(0, 89)] (I1 12 2) ∧ dkN [(0, 90)] (I1 12 4) ∧ dkN [(1, 1)] (I1 12 5) ∧ (I0 12 2).toInt + 1 ≤ (I0 12 1).toInt ∧ (48 : Int) + 0 ≤ (I0 13 (Int32.toNatClampNeg (I0 12 2))).toInt ∧ (57 : Int) + 1 ≤ (I0 13 (Int32.toNatClampNeg (I0 12 2))).toInt ∧ r = (-1000000) ∧ I1 12 2 = I0 12 2 ∧ I1 12 4 = I0 12 2 ∧ I1 12 5 = 1 ∧ True) ∨ (dkN [(-1000000, -1000000)] r ∧ dkN [(1, 90)] (I1 12 1) ∧ dkN [(0, 89)] (I1 12 2) ∧ dkN [(0, 90)] (I1 12 4) ∧ dkN [(2, 2)] (I1 12 5) ∧ (I0 12 2).toInt + 1 ≤ (I0 12 1).toInt ∧ (48 : Int) + 0 ≤ (I0 13 (Int32.toNatClampNeg (I0 12 2))).toInt ∧ (I0 13 (Int32.toNatClampNeg (I0 12 2))).toInt + 0 ≤ (57 : Int) ∧ ((I0 12 2) - (I0 12 2)).toInt = (I0 12 2).toInt - (I0 12 2).toInt ∧ ((I0 12 2) - (I0 12 2)).toInt + 1 ≤ (3 : Int) ∧ ((0 : Int32) + (I0 13 (Int32.toNatClampNeg (I0 12 2)))).toInt = (0 : Int) + (I0 13 (Int32.toNatClampNeg (I0 12 2))).toInt ∧ (((0 : Int32) + (I0 13 (Int32.toNatClampNeg (I0 12 2)))) - (48 : Int32)).toInt = ((0 : Int32) + (I0 13 (Int32.toNatClampNeg (I0 12 2)))).toInt - (48 : Int) ∧ ((I0 12 2) + 1).toInt = (I0 12 2).toInt + (1 : Int) ∧ (I0 12 1).toInt + 0 ≤ ((I0 12 2) + 1).toInt ∧ ((I0 12 2) + 1).toInt ≠ (I0 12 2).toInt ∧ (((I0 12 2) + 1) - (I0 12 2)).toInt = ((I0 12 2) + 1).toInt - (I0 12 2).toInt ∧ (((I0 12 2) + 1) - (I0 12 2)).toInt + 0 ≤ (2 : Int) ∧ (((0 : Int32) + (I0 13 (Int32.toNatClampNeg (I0 12 2)))) - (48 : Int32)).toInt + 1 ≤ p0.toInt ∧ r = (-1000000) ∧ I1 12 2 = I0 12 2 ∧ I1 12 4 = I0 12 2 ∧ I1 12 5 = 2 ∧ True) ∨ (dkN [(3, 9)] r ∧ dkN [(1, 90)] (I1 12 1) ∧ dkN [(1, 90)] (I1 12 2) ∧ (I0 12 2).toInt + 1 ≤ (I0 12 1).toInt ∧ (48 : Int) + 0 ≤ (I0 13 (Int32.toNatClampNeg (I0 12 2))).toInt ∧ (I0 13 (Int32.toNatClampNeg (I0 12 2))).toInt + 0 ≤ (57 : Int) ∧ ((I0 12 2) - (I0 12 2)).toInt = (I0 12 2).toInt - (I0 12 2).toInt ∧ ((I0 12 2) - (I0 12 2)).toInt + 1 ≤ (3 : Int) ∧ ((0 : Int32) + (I0 13 (Int32.toNatClampNeg (I0 12 2)))).toInt = (0 : Int) + (I0 13 (Int32.toNatClampNeg (I0 12 2))).toInt ∧ (((0 : Int32) + (I0 13 (Int32.toNatClampNeg (I0 12 2)))) - (48 : Int32)).toInt = ((0 : Int32) + (I0 13 (Int32.toNatClampNeg (I0 12 2)))).toInt - (48 : Int) ∧ ((I0 12 2) + 1).toInt = (I0 12 2).toInt + (1 : Int) ∧ (I0 12 1).toInt + 0 ≤ ((I0 12 2) + 1).toInt ∧ ((I0 12 2) + 1).toInt ≠ (I0 12 2).toInt ∧ (((I0 12 2) + 1) - (I0 12 2)).toInt = ((I0 12 2) + 1).toInt - (I0 12 2).toInt ∧ (((I0 12 2) + 1) - (I0 12 2)).toInt + 0 ≤ (2 : Int) ∧ p0.toInt + 0 ≤ (((0 : Int32) + (I0 13 (Int32.toNatClampNeg (I0 12 2)))) - (48 : Int32)).toInt ∧ (((0 : Int32) + (I0 13 (Int32.toNatClampNeg (I0 12 2)))) - (48 : Int32)).toInt + 0 ≤ p1.toInt ∧ r = ((0 : Int32) + (I0 13 (Int32.toNatClampNeg (I0 12 2)))) - (48 : Int32) ∧ I1 12 2 = (I0 12 2) + 1 ∧ I1 12 4 = I0 12 4 ∧ I1 12 5 = I0 12 5 ∧ True) ∨ (dkN [(-1000000, -1000000)] r ∧ dkN [(1, 90)] (I1 12 1) ∧ dkN [(0, 89)] (I1 12 2) ∧ dkN [(0, 90)] (I1 12 4) ∧ dkN [(2, 2)] (I1 12 5) ∧ (I0 12 2).toInt + 1 ≤ (I0 12 1).toInt ∧ (48 : Int) + 0 ≤ (I0 13 (Int32.toNatClampNeg (I0 12 2))).toInt ∧ (I0 13 (Int32.toNatClampNeg (I0 12 2))).toInt + 0 ≤ (57 : Int) ∧ ((I0 12 2) - (I0 12 2)).toInt = (I0 12 2).toInt - (I0 12 2).toInt ∧ ((I0 12 2) - (I0 12 2)).toInt + 1 ≤ (3 : Int) ∧ ((0 : Int32) + (I0 13 (Int32.toNatClampNeg (I0 12 2)))).toInt = (0 : Int) + (I0 13 (Int32.toNatClampNeg (I0 12 2))).toInt ∧ (((0 : Int32) + (I0 13 (Int32.toNatClampNeg (I0 12 2)))) - (48 : Int32)).toInt = ((0 : Int32) + (I0 13 (Int32.toNatClampNeg (I0 12 2)))).toInt - (48 : Int) ∧ ((I0 12 2) + 1).toInt = (I0 12 2).toInt + (1 : Int) ∧ (I0 12 1).toInt + 0 ≤ ((I0 12 2) + 1).toInt ∧ ((I0 12 2) + 1).toInt ≠ (I0 12 2).toInt ∧ (((I0 12 2) + 1) - (I0 12 2)).toInt = ((I0 12 2) + 1).toInt - (I0 12 2).toInt ∧ (((I0 12 2) + 1) - (I0 12 2)).toInt + 0 ≤ (2 : Int) ∧ p0.toInt + 0 ≤ (((0 : Int32) + (I0 13 (Int32.toNatClampNeg (I0 12 2)))) - (48 : Int32)).toInt ∧ p1.toInt + 1 ≤ (((0 : Int32) + (I0 13 (Int32.toNatClampNeg (I0 12 2)))) - (48 : Int32)).toInt ∧ r = (-1000000) ∧ I1 12 2 = I0 12 2 ∧ I1 12 4 = I0 12 2 ∧ I1 12 5 = 2 ∧ True) ∨ (dkN [(-1000000, -1000000)] r ∧ dkN [(2, 90)] (I1 12 1) ∧ dkN [(0, 89)] (I1 12 2) ∧ dkN [(0, 90)] (I1 12 4) ∧ dkN [(2, 2)] (I1 12 5) ∧ (I0 12 2).toInt + 1 ≤ (I0 12 1).toInt ∧ (48 : Int) + 0 ≤ (I0 13 (Int32.toNatClampNeg (I0 12 2))).toInt ∧ (I0 13 (Int32.toNatClampNeg (I0 12 2))).toInt + 0 ≤ (57 : Int) ∧ ((I0 12 2) - (I0 12 2)).toInt = (I0 12 2).toInt - (I0 12 2).toInt ∧ ((I0 12 2) - (I0 12 2)).toInt + 1 ≤ (3 : Int) ∧ ((0 : Int32) + (I0 13 (Int32.toNatClampNeg (I0 12 2)))).toInt = (0 : Int) + (I0 13 (Int32.toNatClampNeg (I0 12 2))).toInt ∧ (((0 : Int32) + (I0 13 (Int32.toNatClampNeg (I0 12 2)))) - (48 : Int32)).toInt = ((0 : Int32) + (I0 13 (Int32.toNatClampNeg (I0 12 2)))).toInt - (48 : Int) ∧ ((I0 12 2) + 1).toInt = (I0 12 2).toInt + (1 : Int) ∧ ((I0 12 2) + 1).toInt + 1 ≤ (I0 12 1).toInt ∧ (I0 13 (Int32.toNatClampNeg ((I0 12 2) + 1))).toInt + 1 ≤ (48 : Int) ∧ ((I0 12 2) + 1).toInt ≠ (I0 12 2).toInt ∧ (((I0 12 2) + 1) - (I0 12 2)).toInt = ((I0 12 2) + 1).toInt - (I0 12 2).toInt ∧ (((I0 12 2) + 1) - (I0 12 2)).toInt + 0 ≤ (2 : Int) ∧ (((0 : Int32) + (I0 13 (Int32.toNatClampNeg (I0 12 2)))) - (48 : Int32)).toInt + 1 ≤ p0.toInt ∧ r = (-1000000) ∧ I1 12 2 = I0 12 2 ∧ I1 12 4 = I0 12 2 ∧ I1 12 5 = 2 ∧ True) ∨ (dkN [(3, 9)] r ∧ dkN [(2, 90)] (I1 12 1) ∧ dkN [(1, 89)] (I1 12 2) ∧ (I0 12 2).toInt + 1 ≤ (I0 12 1).toInt ∧ (48 : Int) + 0 ≤ (I0 13 (Int32.toNatClampNeg (I0 12 2))).toInt ∧ (I0 13 (Int32.toNatClampNeg (I0 12 2))).toInt + 0 ≤ (57 : Int) ∧ ((I0 12 2) - (I0 12 2)).toInt = (I0 12 2).toInt - (I0 12 2).toInt ∧ ((I0 12 2) - (I0 12 2)).toInt + 1 ≤ (3 : Int) ∧ ((0 : Int32) + (I0 13 (Int32.toNatClampNeg (I0 12 2)))).toInt = (0 : Int) + (I0 13 (Int32.toNatClampNeg (I0 12 2))).toInt ∧ (((0 : Int32) + (I0 13 (Int32.toNatClampNeg (I0 12 2)))) - (48 : Int32)).toInt = ((0 : Int32) + (I0 13 (Int32.toNatClampNeg (I0 12 2)))).toInt - (48 : Int) ∧ ((I0 12 2) + 1).toInt = (I0 12 2).toInt + (1 : Int) ∧ ((I0 12 2) + 1).toInt + 1 ≤ (I0 12 1).toInt ∧ (I0 13 (Int32.toNatClampNeg ((I0 12 2) + 1))).toInt + 1 ≤ (48 : Int) ∧ ((I0 12 2) + 1).toInt ≠ (I0 12 2).toInt ∧ (((I0 12 2) + 1) - (I0 12 2)).toInt = ((I0 12 2) + 1).toInt - (I0 12 2).toInt ∧ (((I0 12 2) + 1) - (I0 12 2)).toInt + 0 ≤ (2 : Int) ∧ p0.toInt + 0 ≤ (((0 : Int32) + (I0 13 (Int32.toNatClampNeg (I0 12 2)))) - (48 : Int32)).toInt ∧ (((0 : Int32) + (I0 13 (Int32.toNatClampNeg (I0 12 2)))) - (48 : Int32)).toInt + 0 ≤ p1.toInt ∧ r = ((0 : Int32) + (I0 13 (Int32.toNatClampNeg (I0 12 2)))) - (48 : Int32) ∧ I1 12 2 = (I0 12 2) + 1 ∧ I1 12 4 = I0 12 4 ∧ I1 12 5 = I0 12 5 ∧ True) ∨ (dkN [(-1000000, -1000000)] r ∧ dkN [(2, 90)] (I1 12 1) ∧ dkN [(0, 89)] (I1 12 2) ∧ dkN [(0, 90)] (I1 12 4) ∧ dkN [(2, 2)] (I1 12 5) ∧ (I0 12 2).toInt + 1 ≤ (I0 12 1).toInt ∧ (48 : Int) + 0 ≤ (I0 13 (Int32.toNatClampNeg (I0 12 2))).toInt ∧ (I0 13 (Int32.toNatClampNeg (I0 12 2))).toInt + 0 ≤ (57 : Int) ∧ ((I0 12 2) - (I0 12 2)).toInt = (I0 12 2).toInt - (I0 12 2).toInt ∧ ((I0 12 2) - (I0 12 2)).toInt + 1 ≤ (3 : Int) ∧ ((0 : Int32) + (I0 13 (Int32.toNatClampNeg (I0 12 2)))).toInt = (0 : Int) + (I0 13 (Int32.toNatClampNeg (I0 12 2))).toInt ∧ (((0 : Int32) + (I0 13 (Int32.toNatClampNeg (I0 12 2)))) - (48 : Int32)).toInt = ((0 : Int32) + (I0 13 (Int32.toNatClampNeg (I0 12 2)))).toInt - (48 : Int) ∧ ((I0 12 2) + 1).toInt = (I0 12 2).toInt + (1 : Int) ∧ ((I0 12 2) + 1).toInt + 1 ≤ (I0 12 1).toInt ∧ (I0 13 (Int32.toNatClampNeg ((I0 12 2) + 1))).toInt + 1 ≤ (48 : Int) ∧ ((I0 12 2) + 1).toInt ≠ (I0 12 2).toInt ∧ (((I0 12 2) + 1) - (I0 12 2)).toInt = ((I0 12 2) + 1).toInt - (I0 12 2).toInt ∧ (((I0 12 2) + 1) - (I0 12 2)).toInt + 0 ≤ (2 : Int) ∧ p0.toInt + 0 ≤ (((0 : Int32) + (I0 13 (Int32.toNatClampNeg (I0 12 2)))) - (48 : Int32)).toInt ∧ p1.toInt + 1 ≤ (((0 : Int32) + (I0 13 (Int32.toNatClampNeg (I0 12 2)))) - (48 : Int32)).toInt ∧ r = (-1000000) ∧ I1 12 2 = I0 12 2 ∧ I1 12 4 = I0 12 2 ∧ I1 12 5 = 2 ∧ True) ∨ (dkN [(-1000000, -1000000)] r ∧ dkN [(2, 90)] (I1 12 1) ∧ dkN [(0, 89)] (I1 12 2) ∧ dkN [(0, 90)] (I1 12 4) ∧ dkN [(2, 2)] (I1 12 5) ∧ (I0 12 2).toInt + 1 ≤ (I0 12 1).toInt ∧ (48 : Int) + 0 ≤ (I0 13 (Int32.toNatClampNeg (I0 12 2))).toInt ∧ (I0 13 (Int32.toNatClampNeg (I0 12 2))).toInt + 0 ≤ (57 : Int) ∧ ((I0 12 2) - (I0 12 2)).toInt = (I0 12 2).toInt - (I0 12 2).toInt ∧ ((I0 12 2) - (I0 12 2)).toInt + 1 ≤ (3 : Int) ∧ ((0 : Int32) + (I0 13 (Int32.toNatClampNeg (I0 12 2)))).toInt = (0 : Int) + (I0 13 (Int32.toNatClampNeg (I0 12 2))).toInt ∧ (((0 : Int32) + (I0 13 (Int32.toNatClampNeg (I0 12 2)))) - (48 : Int32)).toInt = ((0 : Int32) + (I0 13 (Int32.toNatClampNeg (I0 12 2)))).toInt - (48 : Int) ∧ ((I0 12 2) + 1).toInt = (I0 12 2).toInt + (1 : Int) ∧ ((I0 12 2) + 1).toInt + 1 ≤ (I0 12 1).toInt ∧ (48 : Int) + 0 ≤ (I0 13 (Int32.toNatClampNeg ((I0 12 2) + 1))).toInt ∧ (57 : Int) + 1 ≤ (I0 13 (Int32.toNatClampNeg ((I0 12 2) + 1))).toInt ∧ ((I0 12 2) + 1).toInt ≠ (I0 12 2).toInt ∧ (((I0 12 2) + 1) - (I0 12 2)).toInt = ((I0 12 2) + 1).toInt - (I0 12 2).toInt ∧ (((I0 12 2) + 1) - (I0 12 2)).toInt + 0 ≤ (2 : Int) ∧ (((0 : Int32) + (I0 13 (Int32.toNatClampNeg (I0 12 2)))) - (48 : Int32)).toInt + 1 ≤ p0.toInt ∧ r = (-1000000) ∧ I1 12 2 = I0 12 2 ∧ I1 12 4 = I0 12 2 ∧ I1 12 5 = 2 ∧ True) ∨ (dkN [(3, 9)] r ∧ dkN [(2, 90)] (I1 12 1) ∧ dkN [(1, 89)] (I1 12 2) ∧ (I0 12 2).toInt + 1 ≤ (I0 12 1).toInt ∧ (48 : Int) + 0 ≤ (I0 13 (Int32.toNatClampNeg (I0 12 2))).toInt ∧ (I0 13 (Int32.toNatClampNeg (I0 12 2))).toInt + 0 ≤ (57 : Int) ∧ ((I0 12 2) - (I0 12 2)).toInt = (I0 12 2).toInt - (I0 12 2).toInt ∧ ((I0 12 2) - (I0 12 2)).toInt + 1 ≤ (3 : Int) ∧ ((0 : Int32) + (I0 13 (Int32.toNatClampNeg (I0 12 2)))).toInt = (0 : Int) + (I0 13 (Int32.toNatClampNeg (I0 12 2))).toInt ∧ (((0 : Int32) + (I0 13 (Int32.toNatClampNeg (I0 12 2)))) - (48 : Int32)).toInt = ((0 : Int32) + (I0 13 (Int32.toNatClampNeg (I0 12 2)))).toInt - (48 : Int) ∧ ((I0 12 2) + 1).toInt = (I0 12 2).toInt + (1 : Int) ∧ ((I0 12 2) + 1).toInt + 1 ≤ (I0 12 1).toInt ∧ (48 : Int) + 0 ≤ (I0 13 (Int32.toNatClampNeg ((I0 12 2) + 1))).toInt ∧ (57 : Int) + 1 ≤ (I0 13 (Int32.toNatClampNeg ((I0 12 2) + 1))).toInt ∧ ((I0 12 2) + 1).toInt ≠ (I0 12 2).toInt ∧ (((I0 12 2) + 1) - (I0 12 2)).toInt = ((I0 12 2) + 1).toInt - (I0 12 2).toInt ∧ (((I0 12 2) + 1) - (I0 12 2)).toInt + 0 ≤ (2 : Int) ∧ p0.toInt + 0 ≤ (((0 : Int32) + (I0 13 (Int32.toNatClampNeg (I0 12 2)))) - (48 : Int32)).toInt ∧ (((0 : Int32) + (I0 13 (Int32.toNatClampNeg (I0 12 2)))) - (48 : Int32)).toInt + 0 ≤ p1.toInt ∧ r = ((0 : Int32) + (I0 13 (Int32.toNatClampNeg (I0 12 2)))) - (48 : Int32) ∧ I1 12 2 = (I0 12 2) + 1 ∧ I1 12 4 = I0 12 4 ∧ I1 12 5 = I0 12 5 ∧ True) ∨ (dkN [(-1000000, -1000000)] r ∧ dkN [(2, 90)] (I1 12 1) ∧ dkN [(0, 89)] (I1 12 2) ∧ dkN [(0, 90)] (I1 12 4) ∧ dkN [(2, 2)] (I1 12 5) ∧ (I0 12 2).toInt + 1 ≤ (I0 12 1).toInt ∧ (48 : Int) + 0 ≤ (I0 13 (Int32.toNatClampNeg (I0 12 2))).toInt ∧ (I0 13 (Int32.toNatClampNeg (I0 12 2))).toInt + 0 ≤ (57 : Int) ∧ ((I0 12 2) - (I0 12 2)).toInt = (I0 12 2).toInt - (I0 12 2).toInt ∧ ((I0 12 2) - (I0 12 2)).toInt + 1 ≤ (3 : Int) ∧ ((0 : Int32) + (I0 13 (Int32.toNatClampNeg (I0 12 2)))).toInt = (0 : Int) + (I0 13 (Int32.toNatClampNeg (I0 12 2))).toInt ∧ (((0 : Int32) + (I0 13 (Int32.toNatClampNeg (I0 12 2)))) - (48 : Int32)).toInt = ((0 : Int32) + (I0 13 (Int32.toNatClampNeg (I0 12 2)))).toInt - (48 : Int) ∧ ((I0 12 2) + 1).toInt = (I0 12 2).toInt + (1 : Int) ∧ ((I0 12 2) + 1).toInt + 1 ≤ (I0 12 1).toInt ∧ (48 : Int) + 0 ≤ (I0 13 (Int32.toNatClampNeg ((I0 12 2) + 1))).toInt ∧ (57 : Int) + 1 ≤ (I0 13 (Int32.toNatClampNeg ((I0 12 2) + 1))).toInt ∧ ((I0 12 2) + 1).toInt ≠ (I0 12 2).toInt ∧ (((I0 12 2) + 1) - (I0 12 2)).toInt = ((I0 12 2) + 1).toInt - (I0 12 2).toInt ∧ (((I0 12 2) + 1) - (I0 12 2)).toInt + 0 ≤ (2 : Int) ∧ p0.toInt + 0 ≤ (((0 : Int32) + (I0 13 (Int32.toNatClampNeg (I0 12 2)))) - (48 : Int32)).toInt ∧ p1.toInt + 1 ≤ (((0 : Int32) + (I0 13 (Int32.toNatClampNeg (I0 12 2)))) - (48 : Int32)).toInt ∧ r = (-1000000) ∧ I1 12 2 = I0 12 2 ∧ I1 12 4 = I0 12 2 ∧ I1 12 5 = 2 ∧ True) ∨ (dkN [(-1000000, -1000000)] r ∧ dkN [(2, 90)] (I1 12 1) ∧ dkN [(0, 89)] (I1 12 2) ∧ dkN [(0, 90)] (I1 12 4) ∧ dkN [(2, 2)] (I1 12 5) ∧ (I0 12 2).toInt + 1 ≤ (I0 12 1).toInt ∧ (48 : Int) + 0 ≤ (I0 13 (Int32.toNatClampNeg (I0 12 2))).toInt ∧ (I0 13 (Int32.toNatClampNeg (I0 12 2))).toInt + 0 ≤ (57 : Int) ∧ ((I0 12 2) - (I0 12 2)).toInt = (I0 12 2).toInt - (I0 12 2).toInt ∧ ((I0 12 2) - (I0 12 2)).toInt + 1 ≤ (3 : Int) ∧ ((0 : Int32) + (I0 13 (Int32.toNatClampNeg (I0 12 2)))).toInt = (0 : Int) + (I0 13 (Int32.toNatClampNeg (I0 12 2))).toInt ∧ (((0 : Int32) + (I0 13 (Int32.toNatClampNeg (I0 12 2)))) - (48 : Int32)).toInt = ((0 : Int32) + (I0 13 (Int32.toNatClampNeg (I0 12 2)))).toInt - (48 : Int) ∧ ((I0 12 2) + 1).toInt = (I0 12 2).toInt + (1 : Int) ∧ ((I0 12 2) + 1).toInt + 1 ≤ (I0 12 1).toInt ∧ (48 : Int) + 0 ≤ (I0 13 (Int32.toNatClampNeg ((I0 12 2) + 1))).toInt ∧ (I0 13 (Int32.toNatClampNeg ((I0 12 2) + 1))).toInt + 0 ≤ (57 : Int) ∧ (((I0 12 2) + 1) - (I0 12 2)).toInt = ((I0 12 2) + 1).toInt - (I0 12 2).toInt ∧ (((I0 12 2) + 1) - (I0 12 2)).toInt + 1 ≤ (3 : Int) ∧ ((10 : Int32) * (((0 : Int32) + (I0 13 (Int32.toNatClampNeg (I0 12 2)))) - (48 : Int32))).toInt = (10 : Int) * (((0 : Int32) + (I0 13 (Int32.toNatClampNeg (I0 12 2)))) - (48 : Int32)).toInt ∧ (((10 : Int32) * (((0 : Int32) + (I0 13 (Int32.toNatClampNeg (I0 12 2)))) - (48 : Int32))) + (I0 13 (Int32.toNatClampNeg ((I0 12 2) + 1)))).toInt = ((10 : Int32) * (((0 : Int32) + (I0 13 (Int32.toNatClampNeg (I0 12 2)))) - (48 : Int32))).toInt + (I0 13 (Int32.toNatClampNeg ((I0 12 2) + 1))).toInt ∧ ((((10 : Int32) * (((0 : Int32) + (I0 13 (Int32.toNatClampNeg (I0 12 2)))) - (48 : Int32))) + (I0 13 (Int32.toNatClampNeg ((I0 12 2) + 1)))) - (48 : Int32)).toInt = (((10 : Int32) * (((0 : Int32) + (I0 13 (Int32.toNatClampNeg (I0 12 2)))) - (48 : Int32))) + (I0 13 (Int32.toNatClampNeg ((I0 12 2) + 1)))).toInt - (48 : Int) ∧ (((I0 12 2) + 1) + 1).toInt = ((I0 12 2) + 1).toInt + (1 : Int) ∧ (I0 12 1).toInt + 0 ≤ (((I0 12 2) + 1) + 1).toInt ∧ (((I0 12 2) + 1) + 1).toInt ≠ (I0 12 2).toInt ∧ ((((I0 12 2) + 1) + 1) - (I0 12 2)).toInt = (((I0 12 2) + 1) + 1).toInt - (I0 12 2).toInt ∧ ((((I0 12 2) + 1) + 1) - (I0 12 2)).toInt + 0 ≤ (2 : Int) ∧ ((((10 : Int32) * (((0 : Int32) + (I0 13 (Int32.toNatClampNeg (I0 12 2)))) - (48 : Int32))) + (I0 13 (Int32.toNatClampNeg ((I0 12 2) + 1)))) - (48 : Int32)).toInt + 1 ≤ p0.toInt ∧ r = (-1000000) ∧ I1 12 2 = I0 12 2 ∧ I1 12 4 = I0 12 2 ∧ I1 12 5 = 2 ∧ True) ∨ (dkN [(3, 9)] r ∧ dkN [(2, 90)] (I1 12 1) ∧ dkN [(2, 90)] (I1 12 2) ∧ (I0 12 2).toInt + 1 ≤ (I0 12 1).toInt ∧ (48 : Int) + 0 ≤ (I0 13 (Int32.toNatClampNeg (I0 12 2))).toInt ∧ (I0 13 (Int32.toNatClampNeg (I0 12 2))).toInt + 0 ≤ (57 : Int) ∧ ((I0 12 2) - (I0 12 2)).toInt = (I0 12 2).toInt - (I0 12 2).toInt ∧ ((I0 12 2) - (I0 12 2)).toInt + 1 ≤ (3 : Int) ∧ ((0 : Int32) + (I0 13 (Int32.toNatClampNeg (I0 12 2)))).toInt = (0 : Int) + (I0 13 (Int32.toNatClampNeg (I0 12 2))).toInt ∧ (((0 : Int32) + (I0 13 (Int32.toNatClampNeg (I0 12 2)))) - (48 : Int32)).toInt = ((0 : Int32) + (I0 13 (Int32.toNatClampNeg (I0 12 2)))).toInt - (48 : Int) ∧ ((I0 12 2) + 1).toInt = (I0 12 2).toInt + (1 : Int) ∧ ((I0 12 2) + 1).toInt + 1 ≤ (I0 12 1).toInt ∧ (48 : Int) + 0 ≤ (I0 13 (Int32.toNatClampNeg ((I0 12 2) + 1))).toInt ∧ (I0 13 (Int32.toNatClampNeg ((I0 12 2) + 1))).toInt + 0 ≤ (57 : Int) ∧ (((I0 12 2) + 1) - (I0 12 2)).toInt = ((I0 12 2) + 1).toInt - (I0 12 2).toInt ∧ (((I0 12 2) + 1) - (I0 12 2)).toInt + 1 ≤ (3 : Int) ∧ ((10 : Int32) * (((0 : Int32) + (I0 13 (Int32.toNatClampNeg (I0 12 2)))) - (48 : Int32))).toInt = (10 : Int) * (((0 : Int32) + (I0 13 (Int32.toNatClampNeg (I0 12 2)))) - (48 : Int32)).toInt ∧ (((10 : Int32) * (((0 : Int32) + (I0 13 (Int32.toNatClampNeg (I0 12 2)))) - (48 : Int32))) + (I0 13 (Int32.toNatClampNeg ((I0 12 2) + 1)))).toInt = ((10 : Int32) * (((0 : Int32) + (I0 13 (Int32.toNatClampNeg (I0 12 2)))) - (48 : Int32))).toInt + (I0 13 (Int32.toNatClampNeg ((I0 12 2) + 1))).toInt ∧ ((((10 : Int32) * (((0 : Int32) + (I0 13 (Int32.toNatClampNeg (I0 12 2)))) - (48 : Int32))) + (I0 13 (Int32.toNatClampNeg ((I0 12 2) + 1)))) - (48 : Int32)).toInt = (((10 : Int32) * (((0 : Int32) + (I0 13 (Int32.toNatClampNeg (I0 12 2)))) - (48 : Int32))) + (I0 13 (Int32.toNatClampNeg ((I0 12 2) + 1)))).toInt - (48 : Int) ∧ (((I0 12 2) + 1) + 1).toInt = ((I0 12 2) + 1).toInt + (1 : Int) ∧ (I0 12 1).toInt + 0 ≤ (((I0 12 2) + 1) + 1).toInt ∧ (((I0 12 2) + 1) + 1).toInt ≠ (I0 12 2).toInt ∧ ((((I0 12 2) + 1) + 1) - (I0 12 2)).toInt = (((I0 12 2) + 1) + 1).toInt - (I0 12 2).toInt ∧ ((((I0 12 2) + 1) + 1) - (I0 12 2)).toInt + 0 ≤ (2 : Int) ∧ p0.toInt + 0 ≤ ((((10 : Int32) * (((0 : Int32) + (I0 13 (Int32.toNatClampNeg (I0 12 2)))) - (48 : Int32))) + (I0 13 (Int32.toNatClampNeg ((I0 12 2) + 1)))) - (48 : Int32)).toInt ∧ ((((10 : Int32) * (((0 : Int32) + (I0 13 (Int32.toNatClampNeg (I0 12 2)))) - (48 : Int32))) + (I0 13 (Int32.toNatClampNeg ((I0 12 2) + 1)))) - (48 : Int32)).toInt + 0 ≤ p1.toInt ∧ r = (((10 : Int32) * (((0 : Int32) + (I0 13 (Int32.toNatClampNeg (I0 12 2)))) - (48 : Int32))) + (I0 13 (Int32.toNatClampNeg ((I0 12 2) + 1)))) - (48 : Int32) ∧ I1 12 2 = ((I0 12 2) + 1) + 1 ∧ I1 12 4 = I0 12 4 ∧ I1 12 5 = I0 12 5 ∧ True) ∨ (dkN [(-1000000, -1000000)] r ∧ dkN [(2, 90)] (I1 12 1) ∧ dkN [(0, 89)] (I1 12 2) ∧ dkN [(0, 90)] (I1 12 4) ∧ dkN [(2, 2)] (I1 12 5) ∧ (I0 12 2).toInt + 1 ≤ (I0 12 1).toInt ∧ (48 : Int) + 0 ≤ (I0 13 (Int32.toNatClampNeg (I0 12 2))).toInt ∧ (I0 13 (Int32.toNatClampNeg (I0 12 2))).toInt + 0 ≤ (57 : Int) ∧ ((I0 12 2) - (I0 12 2)).toInt = (I0 12 2).toInt - (I0 12 2).toInt ∧ ((I0 12 2) - (I0 12 2)).toInt + 1 ≤ (3 : Int) ∧ ((0 : Int32) + (I0 13 (Int32.toNatClampNeg (I0 12 2)))).toInt = (0 : Int) + (I0 13 (Int32.toNatClampNeg (I0 12 2))).toInt ∧ (((0 : Int32) + (I0 13 (Int32.toNatClampNeg (I0 12 2)))) - (48 : Int32)).toInt = ((0 : Int32) + (I0 13 (Int32.toNatClampNeg (I0 12 2)))).toInt - (48 : Int) ∧ ((I0 12 2) + 1).toInt = (I0 12 2).toInt + (1 : Int) ∧ ((I0 12 2) + 1).toInt + 1 ≤ (I0 12 1).toInt ∧ (48 : Int) + 0 ≤ (I0 13 (Int32.toNatClampNeg ((I0 12 2) + 1))).toInt ∧ (I0 13 (Int32.toNatClampNeg ((I0 12 2) + 1))).toInt + 0 ≤ (57 : Int) ∧ (((I0 12 2) + 1) - (I0 12 2)).toInt = ((I0 12 2) + 1).toInt - (I0 12 2).toInt ∧ (((I0 12 2) + 1) - (I0 12 2)).toInt + 1 ≤ (3 : Int) ∧ ((10 : Int32) * (((0 : Int32) + (I0 13 (Int32.toNatClampNeg (I0 12 2)))) - (48 : Int32))).toInt = (10 : Int) * (((0 : Int32) + (I0 13 (Int32.toNatClampNeg (I0 12 2)))) - (48 : Int32)).toInt ∧ (((10 : Int32) * (((0 : Int32) + (I0 13 (Int32.toNatClampNeg (I0 12 2)))) - (48 : Int32))) + (I0 13 (Int32.toNatClampNeg ((I0 12 2) + 1)))).toInt = ((10 : Int32) * (((0 : Int32) + (I0 13 (Int32.toNatClampNeg (I0 12 2)))) - (48 : Int32))).toInt + (I0 13 (Int32.toNatClampNeg ((I0 12 2) + 1))).toInt ∧ ((((10 : Int32) * (((0 : Int32) + (I0 13 (Int32.toNatClampNeg (I0 12 2)))) - (48 : Int32))) + (I0 13 (Int32.toNatClampNeg ((I0 12 2) + 1)))) - (48 : Int32)).toInt = (((10 : Int32) * (((0 : Int32) + (I0 13 (Int32.toNatClampNeg (I0 12 2)))) - (48 : Int32))) + (I0 13 (Int32.toNatClampNeg ((I0 12 2) + 1)))).toInt - (48 : Int) ∧ (((I0 12 2) + 1) + 1).toInt = ((I0 12 2) + 1).toInt + (1 : Int) ∧ (I0 12 1).toInt + 0 ≤ (((I0 12 2) + 1) + 1).toInt ∧ (((I0 12 2) + 1) + 1).toInt ≠ (I0 12 2).toInt ∧ ((((I0 12 2) + 1) + 1) - (I0 12 2)).toInt = (((I0 12 2) + 1) + 1).toInt - (I0 12 2).toInt ∧ ((((I0 12 2) + 1) + 1) - (I0 12 2)).toInt + 0 ≤ (2 : Int) ∧ p0.toInt + 0 ≤ ((((10 : Int32) * (((0 : Int32) + (I0 13 (Int32.toNatClampNeg (I0 12 2)))) - (48 : Int32))) + (I0 13 (Int32.toNatClampNeg ((I0 12 2) + 1)))) - (48 : Int32)).toInt ∧ p1.toInt + 1 ≤ ((((10 : Int32) * (((0 : Int32) + (I0 13 (Int32.toNatClampNeg (I0 12 2)))) - (48 : Int32))) + (I0 13 (Int32.toNatClampNeg ((I0 12 2) + 1)))) - (48 : Int32)).toInt ∧ r = (-1000000) ∧ I1 12 2 = I0 12 2 ∧ I1 12 4 = I0 12 2 ∧ I1 12 5 = 2 ∧ True) ∨ (dkN [(-1000000, -1000000)] r ∧ dkN [(3, 90)] (I1 12 1) ∧ dkN [(0, 89)] (I1 12 2) ∧ dkN [(0, 90)] (I1 12 4) ∧ dkN [(2, 2)] (I1 12 5) ∧ (I0 12 2).toInt + 1 ≤ (I0 12 1).toInt ∧ (48 : Int) + 0 ≤ (I0 13 (Int32.toNatClampNeg (I0 12 2))).toInt ∧ (I0 13 (Int32.toNatClampNeg (I0 12 2))).toInt + 0 ≤ (57 : Int) ∧ ((I0 12 2) - (I0 12 2)).toInt = (I0 12 2).toInt - (I0 12 2).toInt ∧ ((I0 12 2) - (I0 12 2)).toInt + 1 ≤ (3 : Int) ∧ ((0 : Int32) + (I0 13 (Int32.toNatClampNeg (I0 12 2)))).toInt = (0 : Int) + (I0 13 (Int32.toNatClampNeg (I0 12 2))).toInt ∧ (((0 : Int32) + (I0 13 (Int32.toNatClampNeg (I0 12 2)))) - (48 : Int32)).toInt = ((0 : Int32) + (I0 13 (Int32.toNatClampNeg (I0 12 2)))).toInt - (48 : Int) ∧ ((I0 12 2) + 1).toInt = (I0 12 2).toInt + (1 : Int) ∧ ((I0 12 2) + 1).toInt + 1 ≤ (I0 12 1).toInt ∧ (48 : Int) + 0 ≤ (I0 13 (Int32.toNatClampNeg ((I0 12 2) + 1))).toInt ∧ (I0 13 (Int32.toNatClampNeg ((I0 12 2) + 1))).toInt + 0 ≤ (57 : Int) ∧ (((I0 12 2) + 1) - (I0 12 2)).toInt = ((I0 12 2) + 1).toInt - (I0 12 2).toInt ∧ (((I0 12 2) + 1) - (I0 12 2)).toInt + 1 ≤ (3 : Int) ∧ ((10 : Int32) * (((0 : Int32) + (I0 13 (Int32.toNatClampNeg (I0 12 2)))) - (48 : Int32))).toInt = (10 : Int) * (((0 : Int32) + (I0 13 (Int32.toNatClampNeg (I0 12 2)))) - (48 : Int32)).toInt ∧ (((10 : Int32) * (((0 : Int32) + (I0 13 (Int32.toNatClampNeg (I0 12 2)))) - (48 : Int32))) + (I0 13 (Int32.toNatClampNeg ((I0 12 2) + 1)))).toInt = ((10 : Int32) * (((0 : Int32) + (I0 13 (Int32.toNatClampNeg (I0 12 2)))) - (48 : Int32))).toInt + (I0 13 (Int32.toNatClampNeg ((I0 12 2) + 1))).toInt ∧ ((((10 : Int32) * (((0 : Int32) + (I0 13 (Int32.toNatClampNeg (I0 12 2)))) - (48 : Int32))) + (I0 13 (Int32.toNatClampNeg ((I0 12 2) + 1)))) - (48 : Int32)).toInt = (((10 : Int32) * (((0 : Int32) + (I0 13 (Int32.toNatClampNeg (I0 12 2)))) - (48 : Int32))) + (I0 13 (Int32.toNatClampNeg ((I0 12 2) + 1)))).toInt - (48 : Int) ∧ (((I0 12 2) + 1) + 1).toInt = ((I0 12 2) + 1).toInt + (1 : Int) ∧ (((I0 12 2) + 1) + 1).toInt + 1 ≤ (I0 12 1).toInt ∧ (I0 13 (Int32.toNatClampNeg (((I0 12 2) + 1) + 1))).toInt + 1 ≤ (48 : Int) ∧ (((I0 12 2) + 1) + 1).toInt ≠ (I0 12 2).toInt ∧ ((((I0 12 2) + 1) + 1) - (I0 12 2)).toInt = (((I0 12 2) + 1) + 1).toInt - (I0 12 2).toInt ∧ ((((I0 12 2) + 1) + 1) - (I0 12 2)).toInt + 0 ≤ (2 : Int) ∧ ((((10 : Int32) * (((0 : Int32) + (I0 13 (Int32.toNatClampNeg (I0 12 2)))) - (48 : Int32))) + (I0 13 (Int32.toNatClampNeg ((I0 12 2) + 1)))) - (48 : Int32)).toInt + 1 ≤ p0.toInt ∧ r = (-1000000) ∧ I1 12 2 = I0 12 2 ∧ I1 12 4 = I0 12 2 ∧ I1 12 5 = 2 ∧ True) ∨ (dkN [(3, 9)] r ∧ dkN [(3, 90)] (I1 12 1) ∧ dkN [(2, 89)] (I1 12 2) ∧ (I0 12 2).toInt + 1 ≤ (I0 12 1).toInt ∧ (48 : Int) + 0 ≤ (I0 13 (Int32.toNatClampNeg (I0 12 2))).toInt ∧ (I0 13 (Int32.toNatClampNeg (I0 12 2))).toInt + 0 ≤ (57 : Int) ∧ ((I0 12 2) - (I0 12 2)).toInt = (I0 12 2).toInt - (I0 12 2).toInt ∧ ((I0 12 2) - (I0 12 2)).toInt + 1 ≤ (3 : Int) ∧ ((0 : Int32) + (I0 13 (Int32.toNatClampNeg (I0 12 2)))).toInt = (0 : Int) + (I0 13 (Int32.toNatClampNeg (I0 12 2))).toInt ∧ (((0 : Int32) + (I0 13 (Int32.toNatClampNeg (I0 12 2)))) - (48 : Int32)).toInt = ((0 : Int32) + (I0 13 (Int32.toNatClampNeg (I0 12 2)))).toInt - (48 : Int) ∧ ((I0 12 2) + 1).toInt = (I0 12 2).toInt + (1 : Int) ∧ ((I0 12 2) + 1).toInt + 1 ≤ (I0 12 1).toInt ∧ (48 : Int) + 0 ≤ (I0 13 (Int32.toNatClampNeg ((I0 12 2) + 1))).toInt ∧ (I0 13 (Int32.toNatClampNeg ((I0 12 2) + 1))).toInt + 0 ≤ (57 : Int) ∧ (((I0 12 2) + 1) - (I0 12 2)).toInt = ((I0 12 2) + 1).toInt - (I0 12 2).toInt ∧ (((I0 12 2) + 1) - (I0 12 2)).toInt + 1 ≤ (3 : Int) ∧ ((10 : Int32) * (((0 : Int32) + (I0 13 (Int32.toNatClampNeg (I0 12 2)))) - (48 : Int32))).toInt = (10 : Int) * (((0 : Int32) + (I0 13 (Int32.toNatClampNeg (I0 12 2)))) - (48 : Int32)).toInt ∧ (((10 : Int32) * (((0 : Int32) + (I0 13 (Int32.toNatClampNeg (I0 12 2)))) - (48 : Int32))) + (I0 13 (Int32.toNatClampNeg ((I0 12 2) + 1)))).toInt = ((10 : Int32) * (((0 : Int32) + (I0 13 (Int32.toNatClampNeg (I0 12 2)))) - (48 : Int32))).toInt + (I0 13 (Int32.toNatClampNeg ((I0 12 2) + 1))).toInt ∧ ((((10 : Int32) * (((0 : Int32) + (I0 13 (Int32.toNatClampNeg (I0 12 2)))) - (48 : Int32))) + (I0 13 (Int32.toNatClampNeg ((I0 12 2) + 1)))) - (48 : Int32)).toInt = (((10 : Int32) * (((0 : Int32) + (I0 13 (Int32.toNatClampNeg (I0 12 2)))) - (48 : Int32))) + (I0 13 (Int32.toNatClampNeg ((I0 12 2) + 1)))).toInt - (48 : Int) ∧ (((I0 12 2) + 1) + 1).toInt = ((I0 12 2) + 1).toInt + (1 : Int) ∧ (((I0 12 2) + 1) + 1).toInt + 1 ≤ (I0 12 1).toInt ∧ (I0 13 (Int32.toNatClampNeg (((I0 12 2) + 1) + 1))).toInt + 1 ≤ (48 : Int) ∧ (((I0 12 2) + 1) + 1).toInt ≠ (I0 12 2).toInt ∧ ((((I0 12 2) + 1) + 1) - (I0 12 2)).toInt = (((I0 12 2) + 1) + 1).toInt - (I0 12 2).toInt ∧ ((((I0 12 2) + 1) + 1) - (I0 12 2)).toInt + 0 ≤ (2 : Int) ∧ p0.toInt + 0 ≤ ((((10 : Int32) * (((0 : Int32) + (I0 13 (Int32.toNatClampNeg (I0 12 2)))) - (48 : Int32))) + (I0 13 (Int32.toNatClampNeg ((I0 12 2) + 1)))) - (48 : Int32)).toInt ∧ ((((10 : Int32) * (((0 : Int32) + (I0 13 (Int32.toNatClampNeg (I0 12 2)))) - (48 : Int32))) + (I0 13 (Int32.toNatClampNeg ((I0 12 2) + 1)))) - (48 : Int32)).toInt + 0 ≤ p1.toInt ∧ r = (((10 : Int32) * (((0 : Int32) + (I0 13 (Int32.toNatClampNeg (I0 12 2)))) - (48 : Int32))) + (I0 13 (Int32.toNatClampNeg ((I0 12 2) + 1)))) - (48 : Int32) ∧ I1 12 2 = ((I0 12 2) + 1) + 1 ∧ I1 12 4 = I0 12 4 ∧ I1 12 5 = I0 12 5 ∧ True) ∨ (dkN [(-1000000, -1000000)] r ∧ dkN [(3, 90)] (I1 12 1) ∧ dkN [(0, 89)] (I1 12 2) ∧ dkN [(0, 90)] (I1 12 4) ∧ dkN [(2, 2)] (I1 12 5) ∧ (I0 12 2).toInt + 1 ≤ (I0 12 1).toInt ∧ (48 : Int) + 0 ≤ (I0 13 (Int32.toNatClampNeg (I0 12 2))).toInt ∧ (I0 13 (Int32.toNatClampNeg (I0 12 2))).toInt + 0 ≤ (57 : Int) ∧ ((I0 12 2) - (I0 12 2)).toInt = (I0 12 2).toInt - (I0 12 2).toInt ∧ ((I0 12 2) - (I0 12 2)).toInt + 1 ≤ (3 : Int) ∧ ((0 : Int32) + (I0 13 (Int32.toNatClampNeg (I0 12 2)))).toInt = (0 : Int) + (I0 13 (Int32.toNatClampNeg (I0 12 2))).toInt ∧ (((0 : Int32) + (I0 13 (Int32.toNatClampNeg (I0 12 2)))) - (48 : Int32)).toInt = ((0 : Int32) + (I0 13 (Int32.toNatClampNeg (I0 12 2)))).toInt - (48 : Int) ∧ ((I0 12 2) + 1).toInt = (I0 12 2).toInt + (1 : Int) ∧ ((I0 12 2) + 1).toInt + 1 ≤ (I0 12 1).toInt ∧ (48 : Int) + 0 ≤ (I0 13 (Int32.toNatClampNeg ((I0 12 2) + 1))).toInt ∧ (I0 13 (Int32.toNatClampNeg ((I0 12 2) + 1))).toInt + 0 ≤ (57 : Int) ∧ (((I0 12 2) + 1) - (I0 12 2)).toInt = ((I0 12 2) + 1).toInt - (I0 12 2).toInt ∧ (((I0 12 2) + 1) - (I0 12 2)).toInt + 1 ≤ (3 : Int) ∧ ((10 : Int32) * (((0 : Int32) + (I0 13 (Int32.toNatClampNeg (I0 12 2)))) - (48 : Int32))).toInt = (10 : Int) * (((0 : Int32) + (I0 13 (Int32.toNatClampNeg (I0 12 2)))) - (48 : Int32)).toInt ∧ (((10 : Int32) * (((0 : Int32) + (I0 13 (Int32.toNatClampNeg (I0 12 2)))) - (48 : Int32))) + (I0 13 (Int32.toNatClampNeg ((I0 12 2) + 1)))).toInt = ((10 : Int32) * (((0 : Int32) + (I0 13 (Int32.toNatClampNeg (I0 12 2)))) - (48 : Int32))).toInt + (I0 13 (Int32.toNatClampNeg ((I0 12 2) + 1))).toInt ∧ ((((10 : Int32) * (((0 : Int32) + (I0 13 (Int32.toNatClampNeg (I0 12 2)))) - (48 : Int32))) + (I0 13 (Int32.toNatClampNeg ((I0 12 2) + 1)))) - (48 : Int32)).toInt = (((10 : Int32) * (((0 : Int32) + (I0 13 (Int32.toNatClampNeg (I0 12 2)))) - (48 : Int32))) + (I0 13 (Int32.toNatClampNeg ((I0 12 2) + 1)))).toInt - (48 : Int) ∧ (((I0 12 2) + 1) + 1).toInt = ((I0 12 2) + 1).toInt + (1 : Int) ∧ (((I0 12 2) + 1) + 1).toInt + 1 ≤ (I0 12 1).toInt ∧ (I0 13 (Int32.toNatClampNeg (((I0 12 2) + 1) + 1))).toInt + 1 ≤ (48 : Int) ∧ (((I0 12 2) + 1) + 1).toInt ≠ (I0 12 2).toInt ∧ ((((I0 12 2) + 1) + 1) - (I0 12 2)).toInt = (((I0 12 2) + 1) + 1).toInt - (I0 12 2).toInt ∧ ((((I0 12 2) + 1) + 1) - (I0 12 2)).toInt + 0 ≤ (2 : Int) ∧ p0.toInt + 0 ≤ ((((10 : Int32) * (((0 : Int32) + (I0 13 (Int32.toNatClampNeg (I0 12 2)))) - (48 : Int32))) + (I0 13 (Int32.toNatClampNeg ((I0 12 2) + 1)))) - (48 : Int32)).toInt ∧ p1.toInt + 1 ≤ ((((10 : Int32) * (((0 : Int32) + (I0 13 (Int32.toNatClampNeg (I0 12 2)))) - (48 : Int32))) + (I0 13 (Int32.toNatClampNeg ((I0 12 2) + 1)))) - (48 : Int32)).toInt ∧ r = (-1000000) ∧ I1 12 2 = I0 12 2 ∧ I1 12 4 = I0 12 2 ∧ I1 12 5 = 2 ∧ True) ∨ (dkN [(-1000000, -1000000)] r ∧ dkN [(3, 90)] (I1 12 1) ∧ dkN [(0, 89)] (I1 12 2) ∧ dkN [(0, 90)] (I1 12 4) ∧ dkN [(2, 2)] (I1 12 5) ∧ (I0 12 2).toInt + 1 ≤ (I0 12 1).toInt ∧ (48 : Int) + 0 ≤ (I0 13 (Int32.toNatClampNeg (I0 12 2))).toInt ∧ (I0 13 (Int32.toNatClampNeg (I0 12 2))).toInt + 0 ≤ (57 : Int) ∧ ((I0 12 2) - (I0 12 2)).toInt = (I0 12 2).toInt - (I0 12 2).toInt ∧ ((I0 12 2) - (I0 12 2)).toInt + 1 ≤ (3 : Int) ∧ ((0 : Int32) + (I0 13 (Int32.toNatClampNeg (I0 12 2)))).toInt = (0 : Int) + (I0 13 (Int32.toNatClampNeg (I0 12 2))).toInt ∧ (((0 : Int32) + (I0 13 (Int32.toNatClampNeg (I0 12 2)))) - (48 : Int32)).toInt = ((0 : Int32) + (I0 13 (Int32.toNatClampNeg (I0 12 2)))).toInt - (48 : Int) ∧ ((I0 12 2) + 1).toInt = (I0 12 2).toInt + (1 : Int) ∧ ((I0 12 2) + 1).toInt + 1 ≤ (I0 12 1).toInt ∧ (48 : Int) + 0 ≤ (I0 13 (Int32.toNatClampNeg ((I0 12 2) + 1))).toInt ∧ (I0 13 (Int32.toNatClampNeg ((I0 12 2) + 1))).toInt + 0 ≤ (57 : Int) ∧ (((I0 12 2) + 1) - (I0 12 2)).toInt = ((I0 12 2) + 1).toInt - (I0 12 2).toInt ∧ (((I0 12 2) + 1) - (I0 12 2)).toInt + 1 ≤ (3 : Int) ∧ ((10 : Int32) * (((0 : Int32) + (I0 13 (Int32.toNatClampNeg (I0 12 2)))) - (48 : Int32))).toInt = (10 : Int) * (((0 : Int32) + (I0 13 (Int32.toNatClampNeg (I0 12 2)))) - (48 : Int32)).toInt ∧ (((10 : Int32) * (((0 : Int32) + (I0 13 (Int32.toNatClampNeg (I0 12 2)))) - (48 : Int32))) + (I0 13 (Int32.toNatClampNeg ((I0 12 2) + 1)))).toInt = ((10 : Int32) * (((0 : Int32) + (I0 13 (Int32.toNatClampNeg (I0 12 2)))) - (48 : Int32))).toInt + (I0 13 (Int32.toNatClampNeg ((I0 12 2) + 1))).toInt ∧ ((((10 : Int32) * (((0 : Int32) + (I0 13 (Int32.toNatClampNeg (I0 12 2)))) - (48 : Int32))) + (I0 13 (Int32.toNatClampNeg ((I0 12 2) + 1)))) - (48 : Int32)).toInt = (((10 : Int32) * (((0 : Int32) + (I0 13 (Int32.toNatClampNeg (I0 12 2)))) - (48 : Int32))) + (I0 13 (Int32.toNatClampNeg ((I0 12 2) + 1)))).toInt - (48 : Int) ∧ (((I0 12 2) + 1) + 1).toInt = ((I0 12 2) + 1).toInt + (1 : Int) ∧ (((I0 12 2) + 1) + 1).toInt + 1 ≤ (I0 12 1).toInt ∧ (48 : Int) + 0 ≤ (I0 13 (Int32.toNatClampNeg (((I0 12 2) + 1) + 1))).toInt ∧ (57 : Int) + 1 ≤ (I0 13 (Int32.toNatClampNeg (((I0 12 2) + 1) + 1))).toInt ∧ (((I0 12 2) + 1) + 1).toInt ≠ (I0 12 2).toInt ∧ ((((I0 12 2) + 1) + 1) - (I0 12 2)).toInt = (((I0 12 2) + 1) + 1).toInt - (I0 12 2).toInt ∧ ((((I0 12 2) + 1) + 1) - (I0 12 2)).toInt + 0 ≤ (2 : Int) ∧ ((((10 : Int32) * (((0 : Int32) + (I0 13 (Int32.toNatClampNeg (I0 12 2)))) - (48 : Int32))) + (I0 13 (Int32.toNatClampNeg ((I0 12 2) + 1)))) - (48 : Int32)).toInt + 1 ≤ p0.toInt ∧ r = (-1000000) ∧ I1 12 2 = I0 12 2 ∧ I1 12 4 = I0 12 2 ∧ I1 12 5 = 2 ∧ True) ∨ (dkN [(3, 9)] r ∧ dkN [(3, 90)] (I1 12 1) ∧ dkN [(2, 89)] (I1 12 2) ∧ (I0 12 2).toInt + 1 ≤ (I0 12 1).toInt ∧ (48 : Int) + 0 ≤ (I0 13 (Int32.toNatClampNeg (I0 12 2))).toInt ∧ (I0 13 (Int32.toNatClampNeg (I0 12 2))).toInt + 0 ≤ (57 : Int) ∧ ((I0 12 2) - (I0 12 2)).toInt = (I0 12 2).toInt - (I0 12 2).toInt ∧ ((I0 12 2) - (I0 12 2)).toInt + 1 ≤ (3 : Int) ∧ ((0 : Int32) + (I0 13 (Int32.toNatClampNeg (I0 12 2)))).toInt = (0 : Int) + (I0 13 (Int32.toNatClampNeg (I0 12 2))).toInt ∧ (((0 : Int32) + (I0 13 (Int32.toNatClampNeg (I0 12 2)))) - (48 : Int32)).toInt = ((0 : Int32) + (I0 13 (Int32.toNatClampNeg (I0 12 2)))).toInt - (48 : Int) ∧ ((I0 12 2) + 1).toInt = (I0 12 2).toInt + (1 : Int) ∧ ((I0 12 2) + 1).toInt + 1 ≤ (I0 12 1).toInt ∧ (48 : Int) + 0 ≤ (I0 13 (Int32.toNatClampNeg ((I0 12 2) + 1))).toInt ∧ (I0 13 (Int32.toNatClampNeg ((I0 12 2) + 1))).toInt + 0 ≤ (57 : Int) ∧ (((I0 12 2) + 1) - (I0 12 2)).toInt = ((I0 12 2) + 1).toInt - (I0 12 2).toInt ∧ (((I0 12 2) + 1) - (I0 12 2)).toInt + 1 ≤ (3 : Int) ∧ ((10 : Int32) * (((0 : Int32) + (I0 13 (Int32.toNatClampNeg (I0 12 2)))) - (48 : Int32))).toInt = (10 : Int) * (((0 : Int32) + (I0 13 (Int32.toNatClampNeg (I0 12 2)))) - (48 : Int32)).toInt ∧ (((10 : Int32) * (((0 : Int32) + (I0 13 (Int32.toNatClampNeg (I0 12 2)))) - (48 : Int32))) + (I0 13 (Int32.toNatClampNeg ((I0 12 2) + 1)))).toInt = ((10 : Int32) * (((0 : Int32) + (I0 13 (Int32.toNatClampNeg (I0 12 2)))) - (48 : Int32))).toInt + (I0 13 (Int32.toNatClampNeg ((I0 12 2) + 1))).toInt ∧ ((((10 : Int32) * (((0 : Int32) + (I0 13 (Int32.toNatClampNeg (I0 12 2)))) - (48 : Int32))) + (I0 13 (Int32.toNatClampNeg ((I0 12 2) + 1)))) - (48 : Int32)).toInt = (((10 : Int32) * (((0 : Int32) + (I0 13 (Int32.toNatClampNeg (I0 12 2)))) - (48 : Int32))) + (I0 13 (Int32.toNatClampNeg ((I0 12 2) + 1)))).toInt - (48 : Int) ∧ (((I0 12 2) + 1) + 1).toInt = ((I0 12 2) + 1).toInt + (1 : Int) ∧ (((I0 12 2) + 1) + 1).toInt + 1 ≤ (I0 12 1).toInt ∧ (48 : Int) + 0 ≤ (I0 13 (Int32.toNatClampNeg (((I0 12 2) + 1) + 1))).toInt ∧ (57 : Int) + 1 ≤ (I0 13 (Int32.toNatClampNeg (((I0 12 2) + 1) + 1))).toInt ∧ (((I0 12 2) + 1) + 1).toInt ≠ (I0 12 2).toInt ∧ ((((I0 12 2) + 1) + 1) - (I0 12 2)).toInt = (((I0 12 2) + 1) + 1).toInt - (I0 12 2).toInt ∧ ((((I0 12 2) + 1) + 1) - (I0 12 2)).toInt + 0 ≤ (2 : Int) ∧ p0.toInt + 0 ≤ ((((10 : Int32) * (((0 : Int32) + (I0 13 (Int32.toNatClampNeg (I0 12 2)))) - (48 : Int32))) + (I0 13 (Int32.toNatClampNeg ((I0 12 2) + 1)))) - (48 : Int32)).toInt ∧ ((((10 : Int32) * (((0 : Int32) + (I0 13 (Int32.toNatClampNeg (I0 12 2)))) - (48 : Int32))) + (I0 13 (Int32.toNatClampNeg ((I0 12 2) + 1)))) - (48 : Int32)).toInt + 0 ≤ p1.toInt ∧ r = (((10 : Int32) * (((0 : Int32) + (I0 13 (Int32.toNatClampNeg (I0 12 2)))) - (48 : Int32))) + (I0 13 (Int32.toNatClampNeg ((I0 12 2) + 1)))) - (48 : Int32) ∧ I1 12 2 = ((I0 12 2) + 1) + 1 ∧ I1 12 4 = I0 12 4 ∧ I1 12 5 = I0 12 5 ∧ True) ∨ (dkN [(-1000000, -1000000)] r ∧ dkN [(3, 90)] (I1 12 1) ∧ dkN [(0, 89)] (I1 12 2) ∧ dkN [(0, 90)] (I1 12 4) ∧ dkN [(2, 2)] (I1 12 5) ∧ (I0 12 2).toInt + 1 ≤ (I0 12 1).toInt ∧ (48 : Int) + 0 ≤ (I0 13 (Int32.toNatClampNeg (I0 12 2))).toInt ∧ (I0 13 (Int32.toNatClampNeg (I0 12 2))).toInt + 0 ≤ (57 : Int) ∧ ((I0 12 2) - (I0 12 2)).toInt = (I0 12 2).toInt - (I0 12 2).toInt ∧ ((I0 12 2) - (I0 12 2)).toInt + 1 ≤ (3 : Int) ∧ ((0 : Int32) + (I0 13 (Int32.toNatClampNeg (I0 12 2)))).toInt = (0 : Int) + (I0 13 (Int32.toNatClampNeg (I0 12 2))).toInt ∧ (((0 : Int32) + (I0 13 (Int32.toNatClampNeg (I0 12 2)))) - (48 : Int32)).toInt = ((0 : Int32) + (I0 13 (Int32.toNatClampNeg (I0 12 2)))).toInt - (48 : Int) ∧ ((I0 12 2) + 1).toInt = (I0 12 2).toInt + (1 : Int) ∧ ((I0 12 2) + 1).toInt + 1 ≤ (I0 12 1).toInt ∧ (48 : Int) + 0 ≤ (I0 13 (Int32.toNatClampNeg ((I0 12 2) + 1))).toInt ∧ (I0 13 (Int32.toNatClampNeg ((I0 12 2) + 1))).toInt + 0 ≤ (57 : Int) ∧ (((I0 12 2) + 1) - (I0 12 2)).toInt = ((I0 12 2) + 1).toInt - (I0 12 2).toInt ∧ (((I0 12 2) + 1) - (I0 12 2)).toInt + 1 ≤ (3 : Int) ∧ ((10 : Int32) * (((0 : Int32) + (I0 13 (Int32.toNatClampNeg (I0 12 2)))) - (48 : Int32))).toInt = (10 : Int) * (((0 : Int32) + (I0 13 (Int32.toNatClampNeg (I0 12 2)))) - (48 : Int32)).toInt ∧ (((10 : Int32) * (((0 : Int32) + (I0 13 (Int32.toNatClampNeg (I0 12 2)))) - (48 : Int32))) + (I0 13 (Int32.toNatClampNeg ((I0 12 2) + 1)))).toInt = ((10 : Int32) * (((0 : Int32) + (I0 13 (Int32.toNatClampNeg (I0 12 2)))) - (48 : Int32))).toInt + (I0 13 (Int32.toNatClampNeg ((I0 12 2) + 1))).toInt ∧ ((((10 : Int32) * (((0 : Int32) + (I0 13 (Int32.toNatClampNeg (I0 12 2)))) - (48 : Int32))) + (I0 13 (Int32.toNatClampNeg ((I0 12 2) + 1)))) - (48 : Int32)).toInt = (((10 : Int32) * (((0 : Int32) + (I0 13 (Int32.toNatClampNeg (I0 12 2)))) - (48 : Int32))) + (I0 13 (Int32.toNatClampNeg ((I0 12 2) + 1)))).toInt - (48 : Int) ∧ (((I0 12 2) + 1) + 1).toInt = ((I0 12 2) + 1).toInt + (1 : Int) ∧ (((I0 12 2) + 1) + 1).toInt + 1 ≤ (I0 12 1).toInt ∧ (48 : Int) + 0 ≤ (I0 13 (Int32.toNatClampNeg (((I0 12 2) + 1) + 1))).toInt ∧ (57 : Int) + 1 ≤ (I0 13 (Int32.toNatClampNeg (((I0 12 2) + 1) + 1))).toInt ∧ (((I0 12 2) + 1) + 1).toInt ≠ (I0 12 2).toInt ∧ ((((I0 12 2) + 1) + 1) - (I0 12 2)).toInt = (((I0 12 2) + 1) + 1).toInt - (I0 12 2).toInt ∧ ((((I0 12 2) + 1) + 1) - (I0 12 2)).toInt + 0 ≤ (2 : Int) ∧ p0.toInt + 0 ≤ ((((10 : Int32) * (((0 : Int32) + (I0 13 (Int32.toNatClampNeg (I0 12 2)))) - (48 : Int32))) + (I0 13 (Int32.toNatClampNeg ((I0 12 2) + 1)))) - (48 : Int32)).toInt ∧ p1.toInt + 1 ≤ ((((10 : Int32) * (((0 : Int32) + (I0 13 (Int32.toNatClampNeg (I0 12 2)))) - (48 : Int32))) + (I0 13 (Int32.toNatClampNeg ((I0 12 2) + 1)))) - (48 : Int32)).toInt ∧ r = (-1000000) ∧ I1 12 2 = I0 12 2 ∧ I1 12 4 = I0 12 2 ∧ I1 12 5 = 2 ∧ True) ∨ (dkN [(-1000000, -1000000)] r ∧ dkN [(3, 90)] (I1 12 1) ∧ dkN [(0, 89)] (I1 12 2) ∧ dkN [(0, 90)] (I1 12 4) ∧ dkN [(1, 1)] (I1 12 5) ∧ (I0 12 2).toInt + 1 ≤ (I0 12 1).toInt ∧ (48 : Int) + 0 ≤ (I0 13 (Int32.toNatClampNeg (I0 12 2))).toInt ∧ (I0 13 (Int32.toNatClampNeg (I0 12 2))).toInt + 0 ≤ (57 : Int) ∧ ((I0 12 2) - (I0 12 2)).toInt = (I0 12 2).toInt - (I0 12 2).toInt ∧ ((I0 12 2) - (I0 12 2)).toInt + 1 ≤ (3 : Int) ∧ ((0 : Int32) + (I0 13 (Int32.toNatClampNeg (I0 12 2)))).toInt = (0 : Int) + (I0 13 (Int32.toNatClampNeg (I0 12 2))).toInt ∧ (((0 : Int32) + (I0 13 (Int32.toNatClampNeg (I0 12 2)))) - (48 : Int32)).toInt = ((0 : Int32) + (I0 13 (Int32.toNatClampNeg (I0 12 2)))).toInt - (48 : Int) ∧ ((I0 12 2) + 1).toInt = (I0 12 2).toInt + (1 : Int) ∧ ((I0 12 2) + 1).toInt + 1 ≤ (I0 12 1).toInt ∧ (48 : Int) + 0 ≤ (I0 13 (Int32.toNatClampNeg ((I0 12 2) + 1))).toInt ∧ (I0 13 (Int32.toNatClampNeg ((I0 12 2) + 1))).toInt + 0 ≤ (57 : Int) ∧ (((I0 12 2) + 1) - (I0 12 2)).toInt = ((I0 12 2) + 1).toInt - (I0 12 2).toInt ∧ (((I0 12 2) + 1) - (I0 12 2)).toInt + 1 ≤ (3 : Int) ∧ ((10 : Int32) * (((0 : Int32) + (I0 13 (Int32.toNatClampNeg (I0 12 2)))) - (48 : Int32))).toInt = (10 : Int) * (((0 : Int32) + (I0 13 (Int32.toNatClampNeg (I0 12 2)))) - (48 : Int32)).toInt ∧ (((10 : Int32) * (((0 : Int32) + (I0 13 (Int32.toNatClampNeg (I0 12 2)))) - (48 : Int32))) + (I0 13 (Int32.toNatClampNeg ((I0 12 2) + 1)))).toInt = ((10 : Int32) * (((0 : Int32) + (I0 13 (Int32.toNatClampNeg (I0 12 2)))) - (48 : Int32))).toInt + (I0 13 (Int32.toNatClampNeg ((I0 12 2) + 1))).toInt ∧ ((((10 : Int32) * (((0 : Int32) + (I0 13 (Int32.toNatClampNeg (I0 12 2)))) - (48 : Int32))) + (I0 13 (Int32.toNatClampNeg ((I0 12 2) + 1)))) - (48 : Int32)).toInt = (((10 : Int32) * (((0 : Int32) + (I0 13 (Int32.toNatClampNeg (I0 12 2)))) - (48 : Int32))) + (I0 13 (Int32.toNatClampNeg ((I0 12 2) + 1)))).toInt - (48 : Int) ∧ (((I0 12 2) + 1) + 1).toInt = ((I0 12 2) + 1).toInt + (1 : Int) ∧ (((I0 12 2) + 1) + 1).toInt + 1 ≤ (I0 12 1).toInt ∧ (48 : Int) + 0 ≤ (I0 13 (Int32.toNatClampNeg (((I0 12 2) + 1) + 1))).toInt ∧ (I0 13 (Int32.toNatClampNeg (((I0 12 2) + 1) + 1))).toInt + 0 ≤ (57 : Int) ∧ ((((I0 12 2) + 1) + 1) - (I0 12 2)).toInt = (((I0 12 2) + 1) + 1).toInt - (I0 12 2).toInt ∧ ((((I0 12 2) + 1) + 1) - (I0 12 2)).toInt + 1 ≤ (3 : Int) ∧ ((10 : Int32) * ((((10 : Int32) * (((0 : Int32) + (I0 13 (Int32.toNatClampNeg (I0 12 2)))) - (48 : Int32))) + (I0 13 (Int32.toNatClampNeg ((I0 12 2) + 1)))) - (48 : Int32))).toInt = (10 : Int) * ((((10 : Int32) * (((0 : Int32) + (I0 13 (Int32.toNatClampNeg (I0 12 2)))) - (48 : Int32))) + (I0 13 (Int32.toNatClampNeg ((I0 12 2) + 1)))) - (48 : Int32)).toInt ∧ (((10 : Int32) * ((((10 : Int32) * (((0 : Int32) + (I0 13 (Int32.toNatClampNeg (I0 12 2)))) - (48 : Int32))) + (I0 13 (Int32.toNatClampNeg ((I0 12 2) + 1)))) - (48 : Int32))) + (I0 13 (Int32.toNatClampNeg (((I0 12 2) + 1) + 1)))).toInt = ((10 : Int32) * ((((10 : Int32) * (((0 : Int32) + (I0 13 (Int32.toNatClampNeg (I0 12 2)))) - (48 : Int32))) + (I0 13 (Int32.toNatClampNeg ((I0 12 2) + 1)))) - (48 : Int32))).toInt + (I0 13 (Int32.toNatClampNeg (((I0 12 2) + 1) + 1))).toInt ∧ ((((10 : Int32) * ((((10 : Int32) * (((0 : Int32) + (I0 13 (Int32.toNatClampNeg (I0 12 2)))) - (48 : Int32))) + (I0 13 (Int32.toNatClampNeg ((I0 12 2) + 1)))) - (48 : Int32))) + (I0 13 (Int32.toNatClampNeg (((I0 12 2) + 1) + 1)))) - (48 : Int32)).toInt = (((10 : Int32) * ((((10 : Int32) * (((0 : Int32) + (I0 13 (Int32.toNatClampNeg (I0 12 2)))) - (48 : Int32))) + (I0 13 (Int32.toNatClampNeg ((I0 12 2) + 1)))) - (48 : Int32))) + (I0 13 (Int32.toNatClampNeg (((I0 12 2) + 1) + 1)))).toInt - (48 : Int) ∧ ((((I0 12 2) + 1) + 1) + 1).toInt = (((I0 12 2) + 1) + 1).toInt + (1 : Int) ∧ (I0 12 1).toInt + 0 ≤ ((((I0 12 2) + 1) + 1) + 1).toInt ∧ ((((I0 12 2) + 1) + 1) + 1).toInt ≠ (I0 12 2).toInt ∧ (((((I0 12 2) + 1) + 1) + 1) - (I0 12 2)).toInt = ((((I0 12 2) + 1) + 1) + 1).toInt - (I0 12 2).toInt ∧ (2 : Int) + 1 ≤ (((((I0 12 2) + 1) + 1) + 1) - (I0 12 2)).toInt ∧ r = (-1000000) ∧ I1 12 2 = I0 12 2 ∧ I1 12 4 = I0 12 2 ∧ I1 12 5 = 1 ∧ True) ∨ (dkN [(-1000000, -1000000)] r ∧ dkN [(4, 90)] (I1 12 1) ∧ dkN [(0, 89)] (I1 12 2) ∧ dkN [(0, 90)] (I1 12 4) ∧ dkN [(1, 1)] (I1 12 5) ∧ (I0 12 2).toInt + 1 ≤ (I0 12 1).toInt ∧ (48 : Int) + 0 ≤ (I0 13 (Int32.toNatClampNeg (I0 12 2))).toInt ∧ (I0 13 (Int32.toNatClampNeg (I0 12 2))).toInt + 0 ≤ (57 : Int) ∧ ((I0 12 2) - (I0 12 2)).toInt = (I0 12 2).toInt - (I0 12 2).toInt ∧ ((I0 12 2) - (I0 12 2)).toInt + 1 ≤ (3 : Int) ∧ ((0 : Int32) + (I0 13 (Int32.toNatClampNeg (I0 12 2)))).toInt = (0 : Int) + (I0 13 (Int32.toNatClampNeg (I0 12 2))).toInt ∧ (((0 : Int32) + (I0 13 (Int32.toNatClampNeg (I0 12 2)))) - (48 : Int32)).toInt = ((0 : Int32) + (I0 13 (Int32.toNatClampNeg (I0 12 2)))).toInt - (48 : Int) ∧ ((I0 12 2) + 1).toInt = (I0 12 2).toInt + (1 : Int) ∧ ((I0 12 2) + 1).toInt + 1 ≤ (I0 12 1).toInt ∧ (48 : Int) + 0 ≤ (I0 13 (Int32.toNatClampNeg ((I0 12 2) + 1))).toInt ∧ (I0 13 (Int32.toNatClampNeg ((I0 12 2) + 1))).toInt + 0 ≤ (57 : Int) ∧ (((I0 12 2) + 1) - (I0 12 2)).toInt = ((I0 12 2) + 1).toInt - (I0 12 2).toInt ∧ (((I0 12 2) + 1) - (I0 12 2)).toInt + 1 ≤ (3 : Int) ∧ ((10 : Int32) * (((0 : Int32) + (I0 13 (Int32.toNatClampNeg (I0 12 2)))) - (48 : Int32))).toInt = (10 : Int) * (((0 : Int32) + (I0 13 (Int32.toNatClampNeg (I0 12 2)))) - (48 : Int32)).toInt ∧ (((10 : Int32) * (((0 : Int32) + (I0 13 (Int32.toNatClampNeg (I0 12 2)))) - (48 : Int32))) + (I0 13 (Int32.toNatClampNeg ((I0 12 2) + 1)))).toInt = ((10 : Int32) * (((0 : Int32) + (I0 13 (Int32.toNatClampNeg (I0 12 2)))) - (48 : Int32))).toInt + (I0 13 (Int32.toNatClampNeg ((I0 12 2) + 1))).toInt ∧ ((((10 : Int32) * (((0 : Int32) + (I0 13 (Int32.toNatClampNeg (I0 12 2)))) - (48 : Int32))) + (I0 13 (Int32.toNatClampNeg ((I0 12 2) + 1)))) - (48 : Int32)).toInt = (((10 : Int32) * (((0 : Int32) + (I0 13 (Int32.toNatClampNeg (I0 12 2)))) - (48 : Int32))) + (I0 13 (Int32.toNatClampNeg ((I0 12 2) + 1)))).toInt - (48 : Int) ∧ (((I0 12 2) + 1) + 1).toInt = ((I0 12 2) + 1).toInt + (1 : Int) ∧ (((I0 12 2) + 1) + 1).toInt + 1 ≤ (I0 12 1).toInt ∧ (48 : Int) + 0 ≤ (I0 13 (Int32.toNatClampNeg (((I0 12 2) + 1) + 1))).toInt ∧ (I0 13 (Int32.toNatClampNeg (((I0 12 2) + 1) + 1))).toInt + 0 ≤ (57 : Int) ∧ ((((I0 12 2) + 1) + 1) - (I0 12 2)).toInt = (((I0 12 2) + 1) + 1).toInt - (I0 12 2).toInt ∧ ((((I0 12 2) + 1) + 1) - (I0 12 2)).toInt + 1 ≤ (3 : Int) ∧ ((10 : Int32) * ((((10 : Int32) * (((0 : Int32) + (I0 13 (Int32.toNatClampNeg (I0 12 2)))) - (48 : Int32))) + (I0 13 (Int32.toNatClampNeg ((I0 12 2) + 1)))) - (48 : Int32))).toInt = (10 : Int) * ((((10 : Int32) * (((0 : Int32) + (I0 13 (Int32.toNatClampNeg (I0 12 2)))) - (48 : Int32))) + (I0 13 (Int32.toNatClampNeg ((I0 12 2) + 1)))) - (48 : Int32)).toInt ∧ (((10 : Int32) * ((((10 : Int32) * (((0 : Int32) + (I0 13 (Int32.toNatClampNeg (I0 12 2)))) - (48 : Int32))) + (I0 13 (Int32.toNatClampNeg ((I0 12 2) + 1)))) - (48 : Int32))) + (I0 13 (Int32.toNatClampNeg (((I0 12 2) + 1) + 1)))).toInt = ((10 : Int32) * ((((10 : Int32) * (((0 : Int32) + (I0 13 (Int32.toNatClampNeg (I0 12 2)))) - (48 : Int32))) + (I0 13 (Int32.toNatClampNeg ((I0 12 2) + 1)))) - (48 : Int32))).toInt + (I0 13 (Int32.toNatClampNeg (((I0 12 2) + 1) + 1))).toInt ∧ ((((10 : Int32) * ((((10 : Int32) * (((0 : Int32) + (I0 13 (Int32.toNatClampNeg (I0 12 2)))) - (48 : Int32))) + (I0 13 (Int32.toNatClampNeg ((I0 12 2) + 1)))) - (48 : Int32))) + (I0 13 (Int32.toNatClampNeg (((I0 12 2) + 1) + 1)))) - (48 : Int32)).toInt = (((10 : Int32) * ((((10 : Int32) * (((0 : Int32) + (I0 13 (Int32.toNatClampNeg (I0 12 2)))) - (48 : Int32))) + (I0 13 (Int32.toNatClampNeg ((I0 12 2) + 1)))) - (48 : Int32))) + (I0 13 (Int32.toNatClampNeg (((I0 12 2) + 1) + 1)))).toInt - (48 : Int) ∧ ((((I0 12 2) + 1) + 1) + 1).toInt = (((I0 12 2) + 1) + 1).toInt + (1 : Int) ∧ ((((I0 12 2) + 1) + 1) + 1).toInt + 1 ≤ (I0 12 1).toInt ∧ (I0 13 (Int32.toNatClampNeg ((((I0 12 2) + 1) + 1) + 1))).toInt + 1 ≤ (48 : Int) ∧ ((((I0 12 2) + 1) + 1) + 1).toInt ≠ (I0 12 2).toInt ∧ (((((I0 12 2) + 1) + 1) + 1) - (I0 12 2)).toInt = ((((I0 12 2) + 1) + 1) + 1).toInt - (I0 12 2).toInt ∧ (2 : Int) + 1 ≤ (((((I0 12 2) + 1) + 1) + 1) - (I0 12 2)).toInt ∧ r = (-1000000) ∧ I1 12 2 = I0 12 2 ∧ I1 12 4 = I0 12 2 ∧ I1 12 5 = 1 ∧ True) ∨ (dkN [(-1000000, -1000000)] r ∧ dkN [(4, 90)] (I1 12 1) ∧ dkN [(0, 89)] (I1 12 2) ∧ dkN [(0, 90)] (I1 12 4) ∧ dkN [(1, 1)] (I1 12 5) ∧ (I0 12 2).toInt + 1 ≤ (I0 12 1).toInt ∧ (48 : Int) + 0 ≤ (I0 13 (Int32.toNatClampNeg (I0 12 2))).toInt ∧ (I0 13 (Int32.toNatClampNeg (I0 12 2))).toInt + 0 ≤ (57 : Int) ∧ ((I0 12 2) - (I0 12 2)).toInt = (I0 12 2).toInt - (I0 12 2).toInt ∧ ((I0 12 2) - (I0 12 2)).toInt + 1 ≤ (3 : Int) ∧ ((0 : Int32) + (I0 13 (Int32.toNatClampNeg (I0 12 2)))).toInt = (0 : Int) + (I0 13 (Int32.toNatClampNeg (I0 12 2))).toInt ∧ (((0 : Int32) + (I0 13 (Int32.toNatClampNeg (I0 12 2)))) - (48 : Int32)).toInt = ((0 : Int32) + (I0 13 (Int32.toNatClampNeg (I0 12 2)))).toInt - (48 : Int) ∧ ((I0 12 2) + 1).toInt = (I0 12 2).toInt + (1 : Int) ∧ ((I0 12 2) + 1).toInt + 1 ≤ (I0 12 1).toInt ∧ (48 : Int) + 0 ≤ (I0 13 (Int32.toNatClampNeg ((I0 12 2) + 1))).toInt ∧ (I0 13 (Int32.toNatClampNeg ((I0 12 2) + 1))).toInt + 0 ≤ (57 : Int) ∧ (((I0 12 2) + 1) - (I0 12 2)).toInt = ((I0 12 2) + 1).toInt - (I0 12 2).toInt ∧ (((I0 12 2) + 1) - (I0 12 2)).toInt + 1 ≤ (3 : Int) ∧ ((10 : Int32) * (((0 : Int32) + (I0 13 (Int32.toNatClampNeg (I0 12 2)))) - (48 : Int32))).toInt = (10 : Int) * (((0 : Int32) + (I0 13 (Int32.toNatClampNeg (I0 12 2)))) - (48 : Int32)).toInt ∧ (((10 : Int32) * (((0 : Int32) + (I0 13 (Int32.toNatClampNeg (I0 12 2)))) - (48 : Int32))) + (I0 13 (Int32.toNatClampNeg ((I0 12 2) + 1)))).toInt = ((10 : Int32) * (((0 : Int32) + (I0 13 (Int32.toNatClampNeg (I0 12 2)))) - (48 : Int32))).toInt + (I0 13 (Int32.toNatClampNeg ((I0 12 2) + 1))).toInt ∧ ((((10 : Int32) * (((0 : Int32) + (I0 13 (Int32.toNatClampNeg (I0 12 2)))) - (48 : Int32))) + (I0 13 (Int32.toNatClampNeg ((I0 12 2) + 1)))) - (48 : Int32)).toInt = (((10 : Int32) * (((0 : Int32) + (I0 13 (Int32.toNatClampNeg (I0 12 2)))) - (48 : Int32))) + (I0 13 (Int32.toNatClampNeg ((I0 12 2) + 1)))).toInt - (48 : Int) ∧ (((I0 12 2) + 1) + 1).toInt = ((I0 12 2) + 1).toInt + (1 : Int) ∧ (((I0 12 2) + 1) + 1).toInt + 1 ≤ (I0 12 1).toInt ∧ (48 : Int) + 0 ≤ (I0 13 (Int32.toNatClampNeg (((I0 12 2) + 1) + 1))).toInt ∧ (I0 13 (Int32.toNatClampNeg (((I0 12 2) + 1) + 1))).toInt + 0 ≤ (57 : Int) ∧ ((((I0 12 2) + 1) + 1) - (I0 12 2)).toInt = (((I0 12 2) + 1) + 1).toInt - (I0 12 2).toInt ∧ ((((I0 12 2) + 1) + 1) - (I0 12 2)).toInt + 1 ≤ (3 : Int) ∧ ((10 : Int32) * ((((10 : Int32) * (((0 : Int32) + (I0 13 (Int32.toNatClampNeg (I0 12 2)))) - (48 : Int32))) + (I0 13 (Int32.toNatClampNeg ((I0 12 2) + 1)))) - (48 : Int32))).toInt = (10 : Int) * ((((10 : Int32) * (((0 : Int32) + (I0 13 (Int32.toNatClampNeg (I0 12 2)))) - (48 : Int32))) + (I0 13 (Int32.toNatClampNeg ((I0 12 2) + 1)))) - (48 : Int32)).toInt ∧ (((10 : Int32) * ((((10 : Int32) * (((0 : Int32) + (I0 13 (Int32.toNatClampNeg (I0 12 2)))) - (48 : Int32))) + (I0 13 (Int32.toNatClampNeg ((I0 12 2) + 1)))) - (48 : Int32))) + (I0 13 (Int32.toNatClampNeg (((I0 12 2) + 1) + 1)))).toInt = ((10 : Int32) * ((((10 : Int32) * (((0 : Int32) + (I0 13 (Int32.toNatClampNeg (I0 12 2)))) - (48 : Int32))) + (I0 13 (Int32.toNatClampNeg ((I0 12 2) + 1)))) - (48 : Int32))).toInt + (I0 13 (Int32.toNatClampNeg (((I0 12 2) + 1) + 1))).toInt ∧ ((((10 : Int32) * ((((10 : Int32) * (((0 : Int32) + (I0 13 (Int32.toNatClampNeg (I0 12 2)))) - (48 : Int32))) + (I0 13 (Int32.toNatClampNeg ((I0 12 2) + 1)))) - (48 : Int32))) + (I0 13 (Int32.toNatClampNeg (((I0 12 2) + 1) + 1)))) - (48 : Int32)).toInt = (((10 : Int32) * ((((10 : Int32) * (((0 : Int32) + (I0 13 (Int32.toNatClampNeg (I0 12 2)))) - (48 : Int32))) + (I0 13 (Int32.toNatClampNeg ((I0 12 2) + 1)))) - (48 : Int32))) + (I0 13 (Int32.toNatClampNeg (((I0 12 2) + 1) + 1)))).toInt - (48 : Int) ∧ ((((I0 12 2) + 1) + 1) + 1).toInt = (((I0 12 2) + 1) + 1).toInt + (1 : Int) ∧ ((((I0 12 2) + 1) + 1) + 1).toInt + 1 ≤ (I0 12 1).toInt ∧ (48 : Int) + 0 ≤ (I0 13 (Int32.toNatClampNeg ((((I0 12 2) + 1) + 1) + 1))).toInt ∧ (57 : Int) + 1 ≤ (I0 13 (Int32.toNatClampNeg ((((I0 12 2) + 1) + 1) + 1))).toInt ∧ ((((I0 12 2) + 1) + 1) + 1).toInt ≠ (I0 12 2).toInt ∧ (((((I0 12 2) + 1) + 1) + 1) - (I0 12 2)).toInt = ((((I0 12 2) + 1) + 1) + 1).toInt - (I0 12 2).toInt ∧ (2 : Int) + 1 ≤ (((((I0 12 2) + 1) + 1) + 1) - (I0 12 2)).toInt ∧ r = (-1000000) ∧ I1 12 2 = I0 12 2 ∧ I1 12 4 = I0 12 2 ∧ I1 12 5 = 1 ∧ True) ∨ (dkN [(-1000000, -1000000)] r ∧ dkN [(4, 90)] (I1 12 1) ∧ dkN [(0, 89)] (I1 12 2) ∧ dkN [(0, 90)] (I1 12 4) ∧ dkN [(1, 1)] (I1 12 5) ∧ (I0 12 2).toInt + 1 ≤ (I0 12 1).toInt ∧ (48 : Int) + 0 ≤ (I0 13 (Int32.toNatClampNeg (I0 12 2))).toInt ∧ (I0 13 (Int32.toNatClampNeg (I0 12 2))).toInt + 0 ≤ (57 : Int) ∧ ((I0 12 2) - (I0 12 2)).toInt = (I0 12 2).toInt - (I0 12 2).toInt ∧ ((I0 12 2) - (I0 12 2)).toInt + 1 ≤ (3 : Int) ∧ ((0 : Int32) + (I0 13 (Int32.toNatClampNeg (I0 12 2)))).toInt = (0 : Int) + (I0 13 (Int32.toNatClampNeg (I0 12 2))).toInt ∧ (((0 : Int32) + (I0 13 (Int32.toNatClampNeg (I0 12 2)))) - (48 : Int32)).toInt = ((0 : Int32) + (I0 13 (Int32.toNatClampNeg (I0 12 2)))).toInt - (48 : Int) ∧ ((I0 12 2) + 1).toInt = (I0 12 2).toInt + (1 : Int) ∧ ((I0 12 2) + 1).toInt + 1 ≤ (I0 12 1).toInt ∧ (48 : Int) + 0 ≤ (I0 13 (Int32.toNatClampNeg ((I0 12 2) + 1))).toInt ∧ (I0 13 (Int32.toNatClampNeg ((I0 12 2) + 1))).toInt + 0 ≤ (57 : Int) ∧ (((I0 12 2) + 1) - (I0 12 2)).toInt = ((I0 12 2) + 1).toInt - (I0 12 2).toInt ∧ (((I0 12 2) + 1) - (I0 12 2)).toInt + 1 ≤ (3 : Int) ∧ ((10 : Int32) * (((0 : Int32) + (I0 13 (Int32.toNatClampNeg (I0 12 2)))) - (48 : Int32))).toInt = (10 : Int) * (((0 : Int32) + (I0 13 (Int32.toNatClampNeg (I0 12 2)))) - (48 : Int32)).toInt ∧ (((10 : Int32) * (((0 : Int32) + (I0 13 (Int32.toNatClampNeg (I0 12 2)))) - (48 : Int32))) + (I0 13 (Int32.toNatClampNeg ((I0 12 2) + 1)))).toInt = ((10 : Int32) * (((0 : Int32) + (I0 13 (Int32.toNatClampNeg (I0 12 2)))) - (48 : Int32))).toInt + (I0 13 (Int32.toNatClampNeg ((I0 12 2) + 1))).toInt ∧ ((((10 : Int32) * (((0 : Int32) + (I0 13 (Int32.toNatClampNeg (I0 12 2)))) - (48 : Int32))) + (I0 13 (Int32.toNatClampNeg ((I0 12 2) + 1)))) - (48 : Int32)).toInt = (((10 : Int32) * (((0 : Int32) + (I0 13 (Int32.toNatClampNeg (I0 12 2)))) - (48 : Int32))) + (I0 13 (Int32.toNatClampNeg ((I0 12 2) + 1)))).toInt - (48 : Int) ∧ (((I0 12 2) + 1) + 1).toInt = ((I0 12 2) + 1).toInt + (1 : Int) ∧ (((I0 12 2) + 1) + 1).toInt + 1 ≤ (I0 12 1).toInt ∧ (48 : Int) + 0 ≤ (I0 13 (Int32.toNatClampNeg (((I0 12 2) + 1) + 1))).toInt ∧ (I0 13 (Int32.toNatClampNeg (((I0 12 2) + 1) + 1))).toInt + 0 ≤ (57 : Int) ∧ ((((I0 12 2) + 1) + 1) - (I0 12 2)).toInt = (((I0 12 2) + 1) + 1).toInt - (I0 12 2).toInt ∧ ((((I0 12 2) + 1) + 1) - (I0 12 2)).toInt + 1 ≤ (3 : Int) ∧ ((10 : Int32) * ((((10 : Int32) * (((0 : Int32) + (I0 13 (Int32.toNatClampNeg (I0 12 2)))) - (48 : Int32))) + (I0 13 (Int32.toNatClampNeg ((I0 12 2) + 1)))) - (48 : Int32))).toInt = (10 : Int) * ((((10 : Int32) * (((0 : Int32) + (I0 13 (Int32.toNatClampNeg (I0 12 2)))) - (48 : Int32))) + (I0 13 (Int32.toNatClampNeg ((I0 12 2) + 1)))) - (48 : Int32)).toInt ∧ (((10 : Int32) * ((((10 : Int32) * (((0 : Int32) + (I0 13 (Int32.toNatClampNeg (I0 12 2)))) - (48 : Int32))) + (I0 13 (Int32.toNatClampNeg ((I0 12 2) + 1)))) - (48 : Int32))) + (I0 13 (Int32.toNatClampNeg (((I0 12 2) + 1) + 1)))).toInt = ((10 : Int32) * ((((10 : Int32) * (((0 : Int32) + (I0 13 (Int32.toNatClampNeg (I0 12 2)))) - (48 : Int32))) + (I0 13 (Int32.toNatClampNeg ((I0 12 2) + 1)))) - (48 : Int32))).toInt + (I0 13 (Int32.toNatClampNeg (((I0 12 2) + 1) + 1))).toInt ∧ ((((10 : Int32) * ((((10 : Int32) * (((0 : Int32) + (I0 13 (Int32.toNatClampNeg (I0 12 2)))) - (48 : Int32))) + (I0 13 (Int32.toNatClampNeg ((I0 12 2) + 1)))) - (48 : Int32))) + (I0 13 (Int32.toNatClampNeg (((I0 12 2) + 1) + 1)))) - (48 : Int32)).toInt = (((10 : Int32) * ((((10 : Int32) * (((0 : Int32) + (I0 13 (Int32.toNatClampNeg (I0 12 2)))) - (48 : Int32))) + (I0 13 (Int32.toNatClampNeg ((I0 12 2) + 1)))) - (48 : Int32))) + (I0 13 (Int32.toNatClampNeg (((I0 12 2) + 1) + 1)))).toInt - (48 : Int) ∧ ((((I0 12 2) + 1) + 1) + 1).toInt = (((I0 12 2) + 1) + 1).toInt + (1 : Int) ∧ ((((I0 12 2) + 1) + 1) + 1).toInt + 1 ≤ (I0 12 1).toInt ∧ (48 : Int) + 0 ≤ (I0 13 (Int32.toNatClampNeg ((((I0 12 2) + 1) + 1) + 1))).toInt ∧ (I0 13 (Int32.toNatClampNeg ((((I0 12 2) + 1) + 1) + 1))).toInt + 0 ≤ (57 : Int) ∧ (((((I0 12 2) + 1) + 1) + 1) - (I0 12 2)).toInt = ((((I0 12 2) + 1) + 1) + 1).toInt - (I0 12 2).toInt ∧ (3 : Int) + 0 ≤ (((((I0 12 2) + 1) + 1) + 1) - (I0 12 2)).toInt ∧ ((((I0 12 2) + 1) + 1) + 1).toInt ≠ (I0 12 2).toInt ∧ (2 : Int) + 1 ≤ (((((I0 12 2) + 1) + 1) + 1) - (I0 12 2)).toInt ∧ r = (-1000000) ∧ I1 12 2 = I0 12 2 ∧ I1 12 4 = I0 12 2 ∧ I1 12 5 = 1 ∧ True)))) 0 0 (dkA z) := by
  refine Met.ofW (cc := cX2_number) (maxL := 5) (ret := (some .int)) (by decide) rfl ?_
  intro p e s m args below meth c s₁ B hml hv
  obtain ⟨ha, hW, hK, hT⟩ := hv
  have hx := B.exec
  have hb := B.bytes
  have hr := B.returns
  have hts := atoms_spec (ws := wsX2_number) B.pre
  have hown : s.vm.findClass RX2 = some m.cls := findClass_of_methodNamed B.named
  have hlocks := B.notSynchronized
  have hS : va_S (dkA z) s.heap s.heap [] := va_S.rf
  have hF : dkF [(12, 12, 2, 2), (12, 12, 4, 5)] I0 I0 := dkF_rf _ _
  have hl := lv_entry ([.ref (z + 12), .int p0, .int p1]) (n := 5) (Nat.le_of_ble_eq_true rfl)
  have hgo : entryFrame m args 5 = entryFrame m ([.ref (z + 12), .int p0, .int p1] : List Value).toArray 5 := by rw [ha]
  rw [hgo, lg_entry_eq]
  generalize (lg_sl ([.ref (z + 12), .int p0, .int p1]) ++ List.replicate (5 - (lg_sl ([.ref (z + 12), .int p0, .int p1])).length) Slot.unset).toArray = ls at hl ⊢
  have hl : lv_has ls 5 [(0, .ref (z + 12)), (1, .int p0), (2, .int p1)] := hl
  refine lv_iconst (v := 0) hx hb dX2_number_0 (by decide) ?_
  refine lv_istore_n (lv' := [(3, .int 0), (0, .ref (z + 12)), (1, .int p0), (2, .int p1)]) hx hb dX2_number_1 rfl hl (by decide) rfl (fun ls hl => ?_)
  refine lv_aload_n hx hb dX2_number_2 rfl (lv_at hl 1 rfl) ?_
  refine dk_get (k := 12) hx hb hts iX2_number_2 hown hK (dk_at12 hW) rfl 2 (by decide) (hts (.fieldLink RX2 30 "DogKings$Reader" "at" "I") (List.mem_of_getElem? (i := 1) rfl)) rfl dX2_number_3 ?_
  refine lv_topi (fun v1 ev1 => ?_)
  have dv1 : dkN [(0, 90)] v1 := by rw [ev1]; exact (hO 12 2)
  have xv1 : v1 = I0 12 2 := ev1.trans rfl
  refine lv_istore (lv' := [(4, .int v1), (3, .int 0), (0, .ref (z + 12)), (1, .int p0), (2, .int p1)]) hx hb dX2_number_6 hl (by decide) rfl (fun ls hl => ?_)
  refine lv_iload hx hb dX2_number_8 (lv_at hl 0 rfl) ?_
  refine lv_aload_n hx hb dX2_number_10 rfl (lv_at hl 2 rfl) ?_
  refine dk_get (k := 12) hx hb hts iX2_number_2 hown hK (dk_at12 hW) rfl 1 (by decide) (hts (.fieldLink RX2 22 "DogKings$Reader" "bytes" "I") (List.mem_of_getElem? (i := 2) rfl)) rfl dX2_number_11 ?_
  refine lv_topi (fun v2 ev2 => ?_)
  have dv2 : dkN [(0, 90)] v2 := by rw [ev2]; exact (hO 12 1)
  have xv2 : v2 = I0 12 1 := ev2.trans rfl
  refine lv_icmp_ge (tgt := 63) hx hb dX2_number_14 (by decide) (fun c3 => ?_) (fun c3 => ?_)
  ·
    have q4 : (I0 12 1).toInt + 0 ≤ (I0 12 2).toInt := by first | (rw [← xv2, ← xv1]; exact (dkc_le c3)) | (subst xv2 xv1; exact (dkc_le c3))
    refine lv_iload hx hb dX2_number_63 (lv_at hl 0 rfl) ?_
    refine lv_aload_n hx hb dX2_number_65 rfl (lv_at hl 2 rfl) ?_
    refine dk_get (k := 12) hx hb hts iX2_number_2 hown hK (dk_at12 hW) rfl 2 (by decide) (hts (.fieldLink RX2 30 "DogKings$Reader" "at" "I") (List.mem_of_getElem? (i := 1) rfl)) rfl dX2_number_66 ?_
    refine lv_topi (fun v5 ev5 => ?_)
    have dv5 : dkN [(0, 90)] v5 := by rw [ev5]; exact (hO 12 2)
    have xv5 : v5 = I0 12 2 := ev5.trans rfl
    refine lv_icmp_eq (tgt := 83) hx hb dX2_number_69 (by decide) (fun c6 => ?_) (fun c6 => ?_)
    ·
      refine lv_aload_n hx hb dX2_number_83 rfl (lv_at hl 2 rfl) ?_
      refine lv_iconst (v := 1) hx hb dX2_number_84 (by decide) ?_
      refine dk_Vi (As := [.int 1]) (rest := []) ⟨hx, hb, hml, hown, hts⟩ (fx_X2_meets_3 l g z I0 1 (dkN_lit (x := 1) (1) rfl) hO) (cwV 1 hts gX2_number_X2_meets rfl rfl rfl (by decide +kernel) ⟨Nat.le_of_ble_eq_true rfl, Nat.le_of_ble_eq_true rfl⟩) (dk_at12 hW) rfl hK hT hW hS rfl hl.1 rfl (Nat.le_of_ble_eq_true rfl) dX2_number_85 ⟨Nat.zero_le _, Nat.zero_le _⟩ (fun v7 I7 H7 L7 hp7 hW hS => ?_)
      obtain ⟨hF7, hO, hc7⟩ := hp7
      have hF := dkF_call hF hF7 rfl
      obtain ⟨dv7, f7_12_4, f7_12_5, xr7, xh7_0, xh7_1, xh7_2, -⟩ := hc7
      have y8 : I7 12 2 = I0 12 2 := by have h := xh7_0; exact h
      have y9 : I7 12 4 = I0 12 2 := by have h := xh7_1; exact h
      have y10 : I7 12 5 = 1 := by have h := xh7_2; exact h
      have xv7 : v7 = 0 := by have h := xr7; exact h
      refine lv_pop hx hb dX2_number_88 rfl ?_
      refine lv_ldc (v := (-1000000)) hx hb hown (hts (.constant RX2 50 (-1000000)) (List.mem_of_getElem? (i := 4) rfl)) dX2_number_89 ?_
      exact W.iret (v := (-1000000)) hx hb hr (fun t ht hW9 => ⟨⟨(-1000000), I7, rfl, ⟨hF, hO, Or.inl ⟨dkN_sub (dkN_lit (x := (-1000000)) (-1000000) rfl) rfl, (show dkN [(0, 90)] (I7 12 4) from dkN_sub f7_12_4 rfl), (show dkN [(1, 1)] (I7 12 5) from dkN_sub f7_12_5 rfl), q4, rfl, y8, y9, y10, trivial⟩⟩, dkW_eq ht hW⟩, hS.F ht⟩) hS.2.2 dX2_number_91
    ·
      exact absurd ((xv1).trans (xv5).symm) c6
  ·
    have q11 : (I0 12 2).toInt + 1 ≤ (I0 12 1).toInt := by first | (rw [← xv2, ← xv1]; exact (dkc_nle c3)) | (subst xv2 xv1; exact (dkc_nle c3))
    have d12 : dkN [(1, 90)] v2 := dkN_le2 1 dv1 dv2 (dkc_nle c3) rfl
    have f13 : dkN [(1, 90)] (I0 12 1) := by rw [← ev2]; exact d12
    have d14 : dkN [(0, 89)] v1 := dkN_le1 1 dv1 dv2 (dkc_nle c3) rfl
    have f15 : dkN [(0, 89)] (I0 12 2) := by rw [← ev1]; exact d14
    refine lv_aload_n hx hb dX2_number_17 rfl (lv_at hl 2 rfl) ?_
    refine dk_get (k := 12) hx hb hts iX2_number_2 hown hK (dk_at12 hW) rfl 0 (by decide) (hts (.fieldLink RX2 11 "DogKings$Reader" "tape" "[I") (List.mem_of_getElem? (i := 3) rfl)) rfl dX2_number_18 ?_
    refine lv_iload hx hb dX2_number_21 (lv_at hl 0 rfl) ?_
    refine dk_ild (k := 13) hx hb hK (dk_at13 hW) (dkN_in (n := 90) d14 rfl) dX2_number_23 ?_
    refine lv_topi (fun v16 ev16 => ?_)
    have dv16 : dkN [(0, 255)] v16 := by rw [ev16]; exact (hO 13 _)
    have xv16 : v16 = I0 13 (Int32.toNatClampNeg (I0 12 2)) := ev16.trans (by rw [xv1])
    refine dk_Si (As := [.int v16]) (rest := []) ⟨hx, hb, hml, hown, hts⟩ (fx_X2_isFigure_1 l g z I0 v16 dv16 hO) (va_cwS 1 hts gX2_number_X2_isFigure rfl rfl rfl (by decide +kernel) ⟨Nat.le_of_ble_eq_true rfl, Nat.le_of_ble_eq_true rfl⟩) hK hT hW hS rfl hl.1 rfl (Nat.le_of_ble_eq_true rfl) dX2_number_24 ⟨Nat.zero_le _, Nat.zero_le _⟩ (fun v17 I17 H17 L17 hp17 hW hS => ?_)
    obtain ⟨hF17, hO, hc17⟩ := hp17
    have hF := dkF_call hF hF17 rfl
    have eI17 : I0 = I17 := (dkF_nil hF17).symm
    subst eI17
    rcases hc17 with ⟨dv17, a17_0, x17_0, xr17, -⟩ | hc17
    ·
      have q18 : (I0 13 (Int32.toNatClampNeg (I0 12 2))).toInt + 1 ≤ (48 : Int) := by have h := x17_0; rw [xv16] at h; exact h
      have xv17 : v17 = 0 := by have h := xr17; exact h
      have d19 : dkN [(0, 47)] v16 := dkN_eq1 dv16 a17_0 rfl rfl
      refine lv_if_eq (tgt := 63) hx hb dX2_number_27 (by decide) (fun c20 => ?_) (fun c20 => ?_)
      ·
        refine lv_iload hx hb dX2_number_63 (lv_at hl 0 rfl) ?_
        refine lv_aload_n hx hb dX2_number_65 rfl (lv_at hl 2 rfl) ?_
        refine dk_get (k := 12) hx hb hts iX2_number_2 hown hK (dk_at12 hW) rfl 2 (by decide) (hts (.fieldLink RX2 30 "DogKings$Reader" "at" "I") (List.mem_of_getElem? (i := 1) rfl)) rfl dX2_number_66 ?_
        refine lv_topi (fun v21 ev21 => ?_)
        have dv21 : dkN [(0, 89)] v21 := by rw [ev21]; exact (by rw [hF17 12 2 rfl]; exact f15)
        have xv21 : v21 = I0 12 2 := ev21.trans rfl
        refine lv_icmp_eq (tgt := 83) hx hb dX2_number_69 (by decide) (fun c22 => ?_) (fun c22 => ?_)
        ·
          refine lv_aload_n hx hb dX2_number_83 rfl (lv_at hl 2 rfl) ?_
          refine lv_iconst (v := 1) hx hb dX2_number_84 (by decide) ?_
          refine dk_Vi (As := [.int 1]) (rest := []) ⟨hx, hb, hml, hown, hts⟩ (fx_X2_meets_3 l g z I0 1 (dkN_lit (x := 1) (1) rfl) hO) (cwV 1 hts gX2_number_X2_meets rfl rfl rfl (by decide +kernel) ⟨Nat.le_of_ble_eq_true rfl, Nat.le_of_ble_eq_true rfl⟩) (dk_at12 hW) rfl hK hT hW hS rfl hl.1 rfl (Nat.le_of_ble_eq_true rfl) dX2_number_85 ⟨Nat.zero_le _, Nat.zero_le _⟩ (fun v23 I23 H23 L23 hp23 hW hS => ?_)
          obtain ⟨hF23, hO, hc23⟩ := hp23
          have hF := dkF_call hF hF23 rfl
          obtain ⟨dv23, f23_12_4, f23_12_5, xr23, xh23_0, xh23_1, xh23_2, -⟩ := hc23
          have y24 : I23 12 2 = I0 12 2 := by have h := xh23_0; exact h
          have y25 : I23 12 4 = I0 12 2 := by have h := xh23_1; exact h
          have y26 : I23 12 5 = 1 := by have h := xh23_2; exact h
          have xv23 : v23 = 0 := by have h := xr23; exact h
          refine lv_pop hx hb dX2_number_88 rfl ?_
          refine lv_ldc (v := (-1000000)) hx hb hown (hts (.constant RX2 50 (-1000000)) (List.mem_of_getElem? (i := 4) rfl)) dX2_number_89 ?_
          exact W.iret (v := (-1000000)) hx hb hr (fun t ht hW9 => ⟨⟨(-1000000), I23, rfl, ⟨hF, hO, Or.inr (Or.inl ⟨dkN_sub (dkN_lit (x := (-1000000)) (-1000000) rfl) rfl, (show dkN [(1, 90)] (I23 12 1) from dkN_sub (by rw [hF23 12 1 rfl]; exact (by rw [hF17 12 1 rfl]; exact f13)) rfl), (show dkN [(0, 89)] (I23 12 2) from dkN_sub (by rw [hF23 12 2 rfl]; exact (by rw [hF17 12 2 rfl]; exact f15)) rfl), (show dkN [(0, 90)] (I23 12 4) from dkN_sub f23_12_4 rfl), (show dkN [(1, 1)] (I23 12 5) from dkN_sub f23_12_5 rfl), q11, q18, rfl, y24, y25, y26, trivial⟩)⟩, dkW_eq ht hW⟩, hS.F ht⟩) hS.2.2 dX2_number_91
        ·
          exact absurd ((xv1).trans (xv21).symm) c22
      ·
        exact absurd ((xv17).trans (rfl).symm) c20
    rcases hc17 with ⟨dv17, a17_0, x17_0, x17_1, xr17, -⟩ | hc17
    ·
      have q27 : (48 : Int) + 0 ≤ (I0 13 (Int32.toNatClampNeg (I0 12 2))).toInt := by have h := x17_0; rw [xv16] at h; exact h
      have q28 : (57 : Int) + 1 ≤ (I0 13 (Int32.toNatClampNeg (I0 12 2))).toInt := by have h := x17_1; rw [xv16] at h; exact h
      have xv17 : v17 = 0 := by have h := xr17; exact h
      have d29 : dkN [(58, 255)] v16 := dkN_eq1 dv16 a17_0 rfl rfl
      refine lv_if_eq (tgt := 63) hx hb dX2_number_27 (by decide) (fun c30 => ?_) (fun c30 => ?_)
      ·
        refine lv_iload hx hb dX2_number_63 (lv_at hl 0 rfl) ?_
        refine lv_aload_n hx hb dX2_number_65 rfl (lv_at hl 2 rfl) ?_
        refine dk_get (k := 12) hx hb hts iX2_number_2 hown hK (dk_at12 hW) rfl 2 (by decide) (hts (.fieldLink RX2 30 "DogKings$Reader" "at" "I") (List.mem_of_getElem? (i := 1) rfl)) rfl dX2_number_66 ?_
        refine lv_topi (fun v31 ev31 => ?_)
        have dv31 : dkN [(0, 89)] v31 := by rw [ev31]; exact (by rw [hF17 12 2 rfl]; exact f15)
        have xv31 : v31 = I0 12 2 := ev31.trans rfl
        refine lv_icmp_eq (tgt := 83) hx hb dX2_number_69 (by decide) (fun c32 => ?_) (fun c32 => ?_)
        ·
          refine lv_aload_n hx hb dX2_number_83 rfl (lv_at hl 2 rfl) ?_
          refine lv_iconst (v := 1) hx hb dX2_number_84 (by decide) ?_
          refine dk_Vi (As := [.int 1]) (rest := []) ⟨hx, hb, hml, hown, hts⟩ (fx_X2_meets_3 l g z I0 1 (dkN_lit (x := 1) (1) rfl) hO) (cwV 1 hts gX2_number_X2_meets rfl rfl rfl (by decide +kernel) ⟨Nat.le_of_ble_eq_true rfl, Nat.le_of_ble_eq_true rfl⟩) (dk_at12 hW) rfl hK hT hW hS rfl hl.1 rfl (Nat.le_of_ble_eq_true rfl) dX2_number_85 ⟨Nat.zero_le _, Nat.zero_le _⟩ (fun v33 I33 H33 L33 hp33 hW hS => ?_)
          obtain ⟨hF33, hO, hc33⟩ := hp33
          have hF := dkF_call hF hF33 rfl
          obtain ⟨dv33, f33_12_4, f33_12_5, xr33, xh33_0, xh33_1, xh33_2, -⟩ := hc33
          have y34 : I33 12 2 = I0 12 2 := by have h := xh33_0; exact h
          have y35 : I33 12 4 = I0 12 2 := by have h := xh33_1; exact h
          have y36 : I33 12 5 = 1 := by have h := xh33_2; exact h
          have xv33 : v33 = 0 := by have h := xr33; exact h
          refine lv_pop hx hb dX2_number_88 rfl ?_
          refine lv_ldc (v := (-1000000)) hx hb hown (hts (.constant RX2 50 (-1000000)) (List.mem_of_getElem? (i := 4) rfl)) dX2_number_89 ?_
          exact W.iret (v := (-1000000)) hx hb hr (fun t ht hW9 => ⟨⟨(-1000000), I33, rfl, ⟨hF, hO, Or.inr (Or.inr (Or.inl ⟨dkN_sub (dkN_lit (x := (-1000000)) (-1000000) rfl) rfl, (show dkN [(1, 90)] (I33 12 1) from dkN_sub (by rw [hF33 12 1 rfl]; exact (by rw [hF17 12 1 rfl]; exact f13)) rfl), (show dkN [(0, 89)] (I33 12 2) from dkN_sub (by rw [hF33 12 2 rfl]; exact (by rw [hF17 12 2 rfl]; exact f15)) rfl), (show dkN [(0, 90)] (I33 12 4) from dkN_sub f33_12_4 rfl), (show dkN [(1, 1)] (I33 12 5) from dkN_sub f33_12_5 rfl), q11, q27, q28, rfl, y34, y35, y36, trivial⟩))⟩, dkW_eq ht hW⟩, hS.F ht⟩) hS.2.2 dX2_number_91
        ·
          exact absurd ((xv1).trans (xv31).symm) c32
      ·
        exact absurd ((xv17).trans (rfl).symm) c30
    ·
      obtain ⟨dv17, a17_0, x17_0, x17_1, xr17, -⟩ := hc17
      have q37 : (48 : Int) + 0 ≤ (I0 13 (Int32.toNatClampNeg (I0 12 2))).toInt := by have h := x17_0; rw [xv16] at h; exact h
      have q38 : (I0 13 (Int32.toNatClampNeg (I0 12 2))).toInt + 0 ≤ (57 : Int) := by have h := x17_1; rw [xv16] at h; exact h
      have xv17 : v17 = 1 := by have h := xr17; exact h
      have d39 : dkN [(48, 57)] v16 := dkN_eq1 dv16 a17_0 rfl rfl
      refine lv_if_eq (tgt := 63) hx hb dX2_number_27 (by decide) (fun c40 => ?_) (fun c40 => ?_)
      ·
        exact (dkN_nil (show dkN [] v17 from dkN_eq1 dv17 (dkN_lit (x := 0) (0) rfl) (congrArg Int32.toInt c40) rfl)).elim
      ·
        refine lv_iload hx hb dX2_number_30 (lv_at hl 0 rfl) ?_
        refine lv_aload_n hx hb dX2_number_32 rfl (lv_at hl 2 rfl) ?_
        refine dk_get (k := 12) hx hb hts iX2_number_2 hown hK (dk_at12 hW) rfl 2 (by decide) (hts (.fieldLink RX2 30 "DogKings$Reader" "at" "I") (List.mem_of_getElem? (i := 1) rfl)) rfl dX2_number_33 ?_
        refine lv_topi (fun v41 ev41 => ?_)
        have dv41 : dkN [(0, 89)] v41 := by rw [ev41]; exact (by rw [hF17 12 2 rfl]; exact f15)
        have xv41 : v41 = I0 12 2 := ev41.trans rfl
        refine lv_isub hx hb dX2_number_36 ?_
        refine lv_topi (fun v42 ev42 => ?_)
        have dv42 : dkN [(0, 0)] v42 := by rw [ev42]; exact dkN_lit (0) (by have h0 : v41.toInt = v1.toInt := congrArg Int32.toInt (xv41.trans xv1.symm); have h9 := dk_subE (x := v1) (y := v41) d14 dv41 rfl; omega)
        have xv42 : v42 = (I0 12 2) - (I0 12 2) := by rw [ev42, xv1, xv41]
        have q43 : ((I0 12 2) - (I0 12 2)).toInt = (I0 12 2).toInt - (I0 12 2).toInt := by first | (rw [← xv42, ← xv1, ← xv41]; exact (by rw [ev42]; exact dk_subE d14 dv41 rfl)) | (subst xv42 xv1 xv41; exact (by rw [ev42]; exact dk_subE d14 dv41 rfl))
        refine lv_iconst (v := 3) hx hb dX2_number_37 (by decide) ?_
        refine lv_icmp_ge (tgt := 63) hx hb dX2_number_38 (by decide) (fun c44 => ?_) (fun c44 => ?_)
        ·
          exact (dkN_nil (show dkN [] 3 from dkN_le1 0 (dkN_lit (x := 3) (3) rfl) dv42 (dkc_le c44) rfl)).elim
        ·
          have q45 : ((I0 12 2) - (I0 12 2)).toInt + 1 ≤ (3 : Int) := by first | (rw [← xv42]; exact (dkc_nle c44)) | (subst xv42; exact (dkc_nle c44))
          refine lv_bipush (v := 10) hx hb dX2_number_41 (by decide) ?_
          refine lv_iload_n hx hb dX2_number_43 rfl (lv_at hl 1 rfl) ?_
          refine lv_imul hx hb dX2_number_44 ?_
          refine lv_topi (fun v46 ev46 => ?_)
          have dv46 : dkN [(0, 0)] v46 := by rw [ev46]; exact dkN_mulR 0 (by decide) (dkN_lit (x := 10) (10) rfl) (dkN_lit (x := 0) (0) rfl) rfl
          have xv46 : v46 = 0 := by rw [ev46]; rfl
          refine lv_aload_n hx hb dX2_number_45 rfl (lv_at hl 2 rfl) ?_
          refine dk_get (k := 12) hx hb hts iX2_number_2 hown hK (dk_at12 hW) rfl 0 (by decide) (hts (.fieldLink RX2 11 "DogKings$Reader" "tape" "[I") (List.mem_of_getElem? (i := 3) rfl)) rfl dX2_number_46 ?_
          refine lv_iload hx hb dX2_number_49 (lv_at hl 0 rfl) ?_
          refine dk_ild (k := 13) hx hb hK (dk_at13 hW) (dkN_in (n := 90) d14 rfl) dX2_number_51 ?_
          refine lv_topi (fun v47 ev47 => ?_)
          have dv47 : dkN [(0, 255)] v47 := by rw [ev47]; exact (hO 13 _)
          have xv47 : v47 = I0 13 (Int32.toNatClampNeg (I0 12 2)) := ev47.trans (by rw [xv1])
          refine lv_iadd hx hb dX2_number_52 ?_
          refine lv_topi (fun v48 ev48 => ?_)
          have dv48 : dkN [(0, 255)] v48 := by rw [ev48]; exact dkN_add dv46 dv47 rfl
          have xv48 : v48 = (0 : Int32) + (I0 13 (Int32.toNatClampNeg (I0 12 2))) := by rw [ev48, xv46, xv47]
          have q49 : ((0 : Int32) + (I0 13 (Int32.toNatClampNeg (I0 12 2)))).toInt = (0 : Int) + (I0 13 (Int32.toNatClampNeg (I0 12 2))).toInt := by first | (rw [← xv48, ← xv46, ← xv47]; exact (by rw [ev48]; exact dk_addE dv46 dv47 rfl)) | (subst xv48 xv46 xv47; exact (by rw [ev48]; exact dk_addE dv46 dv47 rfl))
          refine lv_bipush (v := 48) hx hb dX2_number_53 (by decide) ?_
          refine lv_isub hx hb dX2_number_55 ?_
          refine lv_topi (fun v50 ev50 => ?_)
          have dv50 : dkN [(-48, 207)] v50 := by rw [ev50]; exact dkN_subt dv48 (dkN_lit (x := 48) (48) rfl) rfl
          have xv50 : v50 = ((0 : Int32) + (I0 13 (Int32.toNatClampNeg (I0 12 2)))) - (48 : Int32) := by rw [ev50, xv48]
          have q51 : (((0 : Int32) + (I0 13 (Int32.toNatClampNeg (I0 12 2)))) - (48 : Int32)).toInt = ((0 : Int32) + (I0 13 (Int32.toNatClampNeg (I0 12 2)))).toInt - (48 : Int) := by first | (rw [← xv50, ← xv48]; exact (by rw [ev50]; exact dk_subE dv48 (dkN_lit (x := 48) (48) rfl) rfl)) | (subst xv50 xv48; exact (by rw [ev50]; exact dk_subE dv48 (dkN_lit (x := 48) (48) rfl) rfl))
          refine lv_istore_n (lv' := [(3, .int v50), (4, .int v1), (0, .ref (z + 12)), (1, .int p0), (2, .int p1)]) hx hb dX2_number_56 rfl hl (by decide) rfl (fun ls hl => ?_)
          obtain ⟨v52, ev52⟩ : ∃ y : Int32, y = v1 + 1 := ⟨_, rfl⟩
          have dv52 : dkN [(1, 90)] v52 := by rw [ev52]; exact dkN_add d14 (dkN_lit (x := 1) (1) rfl) rfl
          have xv52 : v52 = (I0 12 2) + 1 := by rw [ev52, xv1]
          have q53 : ((I0 12 2) + 1).toInt = (I0 12 2).toInt + (1 : Int) := by first | (rw [← xv52, ← xv1]; exact (by rw [ev52]; exact dk_addE d14 (dkN_lit (x := 1) (1) rfl) rfl)) | (subst xv52 xv1; exact (by rw [ev52]; exact dk_addE d14 (dkN_lit (x := 1) (1) rfl) rfl))
          refine lv_iinc (v := v52) (lv' := [(4, .int v52), (3, .int v50), (0, .ref (z + 12)), (1, .int p0), (2, .int p1)]) hx hb dX2_number_57 hl (k := 1) rfl (by rw [ev52]; rfl) (by decide) rfl (fun ls hl => ?_)
          refine lv_goto (tgt := 8) hx hb dX2_number_60 (by decide) ?_
          refine lv_iload hx hb dX2_number_8 (lv_at hl 0 rfl) ?_
          refine lv_aload_n hx hb dX2_number_10 rfl (lv_at hl 2 rfl) ?_
          refine dk_get (k := 12) hx hb hts iX2_number_2 hown hK (dk_at12 hW) rfl 1 (by decide) (hts (.fieldLink RX2 22 "DogKings$Reader" "bytes" "I") (List.mem_of_getElem? (i := 2) rfl)) rfl dX2_number_11 ?_
          refine lv_topi (fun v54 ev54 => ?_)
          have dv54 : dkN [(1, 90)] v54 := by rw [ev54]; exact (by rw [hF17 12 1 rfl]; exact f13)
          have xv54 : v54 = I0 12 1 := ev54.trans rfl
          refine lv_icmp_ge (tgt := 63) hx hb dX2_number_14 (by decide) (fun c55 => ?_) (fun c55 => ?_)
          ·
            have q56 : (I0 12 1).toInt + 0 ≤ ((I0 12 2) + 1).toInt := by first | (rw [← xv54, ← xv52]; exact (dkc_le c55)) | (subst xv54 xv52; exact (dkc_le c55))
            refine lv_iload hx hb dX2_number_63 (lv_at hl 0 rfl) ?_
            refine lv_aload_n hx hb dX2_number_65 rfl (lv_at hl 2 rfl) ?_
            refine dk_get (k := 12) hx hb hts iX2_number_2 hown hK (dk_at12 hW) rfl 2 (by decide) (hts (.fieldLink RX2 30 "DogKings$Reader" "at" "I") (List.mem_of_getElem? (i := 1) rfl)) rfl dX2_number_66 ?_
            refine lv_topi (fun v57 ev57 => ?_)
            have dv57 : dkN [(0, 89)] v57 := by rw [ev57]; exact (by rw [hF17 12 2 rfl]; exact f15)
            have xv57 : v57 = I0 12 2 := ev57.trans rfl
            refine lv_icmp_eq (tgt := 83) hx hb dX2_number_69 (by decide) (fun c58 => ?_) (fun c58 => ?_)
            ·
              exact absurd (congrArg Int32.toInt c58) (by have h0 : v57.toInt = v1.toInt := congrArg Int32.toInt (xv57.trans xv1.symm); have h1 : v52.toInt = v1.toInt + 1 := (by rw [ev52]; exact dk_inc d14 rfl); omega)
            ·
              have q59 : ((I0 12 2) + 1).toInt ≠ (I0 12 2).toInt := by first | (rw [← xv52, ← xv57]; exact (dk_ne c58)) | (subst xv52 xv57; exact (dk_ne c58))
              refine lv_iload hx hb dX2_number_72 (lv_at hl 0 rfl) ?_
              refine lv_aload_n hx hb dX2_number_74 rfl (lv_at hl 2 rfl) ?_
              refine dk_get (k := 12) hx hb hts iX2_number_2 hown hK (dk_at12 hW) rfl 2 (by decide) (hts (.fieldLink RX2 30 "DogKings$Reader" "at" "I") (List.mem_of_getElem? (i := 1) rfl)) rfl dX2_number_75 ?_
              refine lv_topi (fun v60 ev60 => ?_)
              have dv60 : dkN [(0, 89)] v60 := by rw [ev60]; exact (by rw [hF17 12 2 rfl]; exact f15)
              have xv60 : v60 = I0 12 2 := ev60.trans rfl
              refine lv_isub hx hb dX2_number_78 ?_
              refine lv_topi (fun v61 ev61 => ?_)
              have dv61 : dkN [(1, 1)] v61 := by rw [ev61]; exact dkN_lit (1) (by have h0 : v60.toInt = v1.toInt := congrArg Int32.toInt (xv60.trans xv1.symm); have h9 := dk_subE (x := v52) (y := v60) dv52 dv60 rfl; have h1 : v52.toInt = v1.toInt + 1 := (by rw [ev52]; exact dk_inc d14 rfl); omega)
              have xv61 : v61 = ((I0 12 2) + 1) - (I0 12 2) := by rw [ev61, xv52, xv60]
              have q62 : (((I0 12 2) + 1) - (I0 12 2)).toInt = ((I0 12 2) + 1).toInt - (I0 12 2).toInt := by first | (rw [← xv61, ← xv52, ← xv60]; exact (by rw [ev61]; exact dk_subE dv52 dv60 rfl)) | (subst xv61 xv52 xv60; exact (by rw [ev61]; exact dk_subE dv52 dv60 rfl))
              refine lv_iconst (v := 2) hx hb dX2_number_79 (by decide) ?_
              refine lv_icmp_le (tgt := 92) hx hb dX2_number_80 (by decide) (fun c63 => ?_) (fun c63 => ?_)
              ·
                have q64 : (((I0 12 2) + 1) - (I0 12 2)).toInt + 0 ≤ (2 : Int) := by first | (rw [← xv61]; exact (dkc_le c63)) | (subst xv61; exact (dkc_le c63))
                refine lv_iload_n hx hb dX2_number_92 rfl (lv_at hl 1 rfl) ?_
                refine lv_iload_n hx hb dX2_number_93 rfl (lv_at hl 3 rfl) ?_
                refine lv_icmp_lt (tgt := 102) hx hb dX2_number_94 (by decide) (fun c65 => ?_) (fun c65 => ?_)
                ·
                  have q66 : (((0 : Int32) + (I0 13 (Int32.toNatClampNeg (I0 12 2)))) - (48 : Int32)).toInt + 1 ≤ p0.toInt := by first | (rw [← xv50]; exact (dkc_lt c65)) | (subst xv50; exact (dkc_lt c65))
                  have d67 : dkN [(-48, 2)] v50 := dkN_le1 1 dv50 dp0 (dkc_lt c65) rfl
                  refine lv_aload_n hx hb dX2_number_102 rfl (lv_at hl 2 rfl) ?_
                  refine lv_iconst (v := 2) hx hb dX2_number_103 (by decide) ?_
                  refine dk_Vi (As := [.int 2]) (rest := []) ⟨hx, hb, hml, hown, hts⟩ (fx_X2_meets_4 l g z I0 2 (dkN_lit (x := 2) (2) rfl) hO) (cwV 1 hts gX2_number_X2_meets rfl rfl rfl (by decide +kernel) ⟨Nat.le_of_ble_eq_true rfl, Nat.le_of_ble_eq_true rfl⟩) (dk_at12 hW) rfl hK hT hW hS rfl hl.1 rfl (Nat.le_of_ble_eq_true rfl) dX2_number_104 ⟨Nat.zero_le _, Nat.zero_le _⟩ (fun v68 I68 H68 L68 hp68 hW hS => ?_)
                  obtain ⟨hF68, hO, hc68⟩ := hp68
                  have hF := dkF_call hF hF68 rfl
                  obtain ⟨dv68, f68_12_4, f68_12_5, xr68, xh68_0, xh68_1, xh68_2, -⟩ := hc68
                  have y69 : I68 12 2 = I0 12 2 := by have h := xh68_0; exact h
                  have y70 : I68 12 4 = I0 12 2 := by have h := xh68_1; exact h
                  have y71 : I68 12 5 = 2 := by have h := xh68_2; exact h
                  have xv68 : v68 = 0 := by have h := xr68; exact h
                  refine lv_pop hx hb dX2_number_107 rfl ?_
                  refine lv_ldc (v := (-1000000)) hx hb hown (hts (.constant RX2 50 (-1000000)) (List.mem_of_getElem? (i := 4) rfl)) dX2_number_108 ?_
                  exact W.iret (v := (-1000000)) hx hb hr (fun t ht hW9 => ⟨⟨(-1000000), I68, rfl, ⟨hF, hO, Or.inr (Or.inr (Or.inr (Or.inl ⟨dkN_sub (dkN_lit (x := (-1000000)) (-1000000) rfl) rfl, (show dkN [(1, 90)] (I68 12 1) from dkN_sub (by rw [hF68 12 1 rfl]; exact (by rw [hF17 12 1 rfl]; exact f13)) rfl), (show dkN [(0, 89)] (I68 12 2) from dkN_sub (by rw [hF68 12 2 rfl]; exact (by rw [hF17 12 2 rfl]; exact f15)) rfl), (show dkN [(0, 90)] (I68 12 4) from dkN_sub f68_12_4 rfl), (show dkN [(2, 2)] (I68 12 5) from dkN_sub f68_12_5 rfl), q11, q37, q38, q43, q45, q49, q51, q53, q56, q59, q62, q64, q66, rfl, y69, y70, y71, trivial⟩)))⟩, dkW_eq ht hW⟩, hS.F ht⟩) hS.2.2 dX2_number_110
                ·
                  have q72 : p0.toInt + 0 ≤ (((0 : Int32) + (I0 13 (Int32.toNatClampNeg (I0 12 2)))) - (48 : Int32)).toInt := by first | (rw [← xv50]; exact (dkc_nlt c65)) | (subst xv50; exact (dkc_nlt c65))
                  have d73 : dkN [(3, 207)] v50 := dkN_le2 0 dp0 dv50 (dkc_nlt c65) rfl
                  refine lv_iload_n hx hb dX2_number_97 rfl (lv_at hl 1 rfl) ?_
                  refine lv_iload_n hx hb dX2_number_98 rfl (lv_at hl 4 rfl) ?_
                  refine lv_icmp_le (tgt := 111) hx hb dX2_number_99 (by decide) (fun c74 => ?_) (fun c74 => ?_)
                  ·
                    have q75 : (((0 : Int32) + (I0 13 (Int32.toNatClampNeg (I0 12 2)))) - (48 : Int32)).toInt + 0 ≤ p1.toInt := by first | (rw [← xv50]; exact (dkc_le c74)) | (subst xv50; exact (dkc_le c74))
                    have d76 : dkN [(3, 9)] v50 := dkN_le1 0 d73 dp1 (dkc_le c74) rfl
                    refine lv_aload_n hx hb dX2_number_111 rfl (lv_at hl 2 rfl) ?_
                    refine lv_iload hx hb dX2_number_112 (lv_at hl 0 rfl) ?_
                    refine dk_put (k := 12) hx hb hts iX2_number_2 tyX2 tyX2_ok nmX2 hown hK hW (dk_at12 hW) hS rfl 2 (by decide) (hts (.fieldLink RX2 30 "DogKings$Reader" "at" "I") (List.mem_of_getElem? (i := 1) rfl)) rfl rfl (Nat.le_of_ble_eq_true rfl) rfl dX2_number_114 (fun I77 H77 L77 eI77 hW hS => ?_)
                    have eI77 : I77 = dkU I0 12 2 v52 := eI77
                    have hO := dkO_set hO eI77 (dkN_sub dv52 rfl)
                    have hF := dkF_set hF eI77 rfl
                    refine lv_iload_n hx hb dX2_number_117 rfl (lv_at hl 1 rfl) ?_
                    exact W.iret (v := v50) hx hb hr (fun t ht hW9 => ⟨⟨v50, I77, rfl, ⟨hF, hO, Or.inr (Or.inr (Or.inr (Or.inr (Or.inl ⟨dkN_sub d76 rfl, (show dkN [(1, 90)] (I77 12 1) from dkN_sub (by rw [eI77, dkU_sn (by decide)]; exact (by rw [hF17 12 1 rfl]; exact f13)) rfl), (show dkN [(1, 90)] (I77 12 2) from dkN_sub (by rw [eI77, dkU_ss]; exact dv52) rfl), q11, q37, q38, q43, q45, q49, q51, q53, q56, q59, q62, q64, q72, q75, xv50, (by rw [eI77, dkU_ss, xv52]), ((by rw [eI77, dkU_sn (by decide)] : I77 12 4 = _).trans rfl), ((by rw [eI77, dkU_sn (by decide)] : I77 12 5 = _).trans rfl), trivial⟩))))⟩, dkW_eq ht hW⟩, hS.F ht⟩) hS.2.2 dX2_number_118
                  ·
                    have q78 : p1.toInt + 1 ≤ (((0 : Int32) + (I0 13 (Int32.toNatClampNeg (I0 12 2)))) - (48 : Int32)).toInt := by first | (rw [← xv50]; exact (dkc_nle c74)) | (subst xv50; exact (dkc_nle c74))
                    have d79 : dkN [(10, 207)] v50 := dkN_le2 1 dp1 d73 (dkc_nle c74) rfl
                    refine lv_aload_n hx hb dX2_number_102 rfl (lv_at hl 2 rfl) ?_
                    refine lv_iconst (v := 2) hx hb dX2_number_103 (by decide) ?_
                    refine dk_Vi (As := [.int 2]) (rest := []) ⟨hx, hb, hml, hown, hts⟩ (fx_X2_meets_4 l g z I0 2 (dkN_lit (x := 2) (2) rfl) hO) (cwV 1 hts gX2_number_X2_meets rfl rfl rfl (by decide +kernel) ⟨Nat.le_of_ble_eq_true rfl, Nat.le_of_ble_eq_true rfl⟩) (dk_at12 hW) rfl hK hT hW hS rfl hl.1 rfl (Nat.le_of_ble_eq_true rfl) dX2_number_104 ⟨Nat.zero_le _, Nat.zero_le _⟩ (fun v80 I80 H80 L80 hp80 hW hS => ?_)
                    obtain ⟨hF80, hO, hc80⟩ := hp80
                    have hF := dkF_call hF hF80 rfl
                    obtain ⟨dv80, f80_12_4, f80_12_5, xr80, xh80_0, xh80_1, xh80_2, -⟩ := hc80
                    have y81 : I80 12 2 = I0 12 2 := by have h := xh80_0; exact h
                    have y82 : I80 12 4 = I0 12 2 := by have h := xh80_1; exact h
                    have y83 : I80 12 5 = 2 := by have h := xh80_2; exact h
                    have xv80 : v80 = 0 := by have h := xr80; exact h
                    refine lv_pop hx hb dX2_number_107 rfl ?_
                    refine lv_ldc (v := (-1000000)) hx hb hown (hts (.constant RX2 50 (-1000000)) (List.mem_of_getElem? (i := 4) rfl)) dX2_number_108 ?_
                    exact W.iret (v := (-1000000)) hx hb hr (fun t ht hW9 => ⟨⟨(-1000000), I80, rfl, ⟨hF, hO, Or.inr (Or.inr (Or.inr (Or.inr (Or.inr (Or.inl ⟨dkN_sub (dkN_lit (x := (-1000000)) (-1000000) rfl) rfl, (show dkN [(1, 90)] (I80 12 1) from dkN_sub (by rw [hF80 12 1 rfl]; exact (by rw [hF17 12 1 rfl]; exact f13)) rfl), (show dkN [(0, 89)] (I80 12 2) from dkN_sub (by rw [hF80 12 2 rfl]; exact (by rw [hF17 12 2 rfl]; exact f15)) rfl), (show dkN [(0, 90)] (I80 12 4) from dkN_sub f80_12_4 rfl), (show dkN [(2, 2)] (I80 12 5) from dkN_sub f80_12_5 rfl), q11, q37, q38, q43, q45, q49, q51, q53, q56, q59, q62, q64, q72, q78, rfl, y81, y82, y83, trivial⟩)))))⟩, dkW_eq ht hW⟩, hS.F ht⟩) hS.2.2 dX2_number_110
              ·
                exact (dkN_nil (show dkN [] v61 from dkN_le2 1 (dkN_lit (x := 2) (2) rfl) dv61 (dkc_nle c63) rfl)).elim
          ·
            have q84 : ((I0 12 2) + 1).toInt + 1 ≤ (I0 12 1).toInt := by first | (rw [← xv54, ← xv52]; exact (dkc_nle c55)) | (subst xv54 xv52; exact (dkc_nle c55))
            have d85 : dkN [(2, 90)] v54 := dkN_le2 1 dv52 dv54 (dkc_nle c55) rfl
            have f86 : dkN [(2, 90)] (I0 12 1) := by rw [← ev54]; exact d85
            have d87 : dkN [(1, 89)] v52 := dkN_le1 1 dv52 dv54 (dkc_nle c55) rfl
            refine lv_aload_n hx hb dX2_number_17 rfl (lv_at hl 2 rfl) ?_
            refine dk_get (k := 12) hx hb hts iX2_number_2 hown hK (dk_at12 hW) rfl 0 (by decide) (hts (.fieldLink RX2 11 "DogKings$Reader" "tape" "[I") (List.mem_of_getElem? (i := 3) rfl)) rfl dX2_number_18 ?_
            refine lv_iload hx hb dX2_number_21 (lv_at hl 0 rfl) ?_
            refine dk_ild (k := 13) hx hb hK (dk_at13 hW) (dkN_in (n := 90) d87 rfl) dX2_number_23 ?_
            refine lv_topi (fun v88 ev88 => ?_)
            have dv88 : dkN [(0, 255)] v88 := by rw [ev88]; exact (hO 13 _)
            have xv88 : v88 = I0 13 (Int32.toNatClampNeg ((I0 12 2) + 1)) := ev88.trans (by rw [xv52])
            refine dk_Si (As := [.int v88]) (rest := []) ⟨hx, hb, hml, hown, hts⟩ (fx_X2_isFigure_1 l g z I0 v88 dv88 hO) (va_cwS 1 hts gX2_number_X2_isFigure rfl rfl rfl (by decide +kernel) ⟨Nat.le_of_ble_eq_true rfl, Nat.le_of_ble_eq_true rfl⟩) hK hT hW hS rfl hl.1 rfl (Nat.le_of_ble_eq_true rfl) dX2_number_24 ⟨Nat.zero_le _, Nat.zero_le _⟩ (fun v89 I89 H89 L89 hp89 hW hS => ?_)
            obtain ⟨hF89, hO, hc89⟩ := hp89
            have hF := dkF_call hF hF89 rfl
            have eI89 : I0 = I89 := (dkF_nil hF89).symm
            subst eI89
            rcases hc89 with ⟨dv89, a89_0, x89_0, xr89, -⟩ | hc89
            ·
              have q90 : (I0 13 (Int32.toNatClampNeg ((I0 12 2) + 1))).toInt + 1 ≤ (48 : Int) := by have h := x89_0; rw [xv88] at h; exact h
              have xv89 : v89 = 0 := by have h := xr89; exact h
              have d91 : dkN [(0, 47)] v88 := dkN_eq1 dv88 a89_0 rfl rfl
              refine lv_if_eq (tgt := 63) hx hb dX2_number_27 (by decide) (fun c92 => ?_) (fun c92 => ?_)
              ·
                refine lv_iload hx hb dX2_number_63 (lv_at hl 0 rfl) ?_
                refine lv_aload_n hx hb dX2_number_65 rfl (lv_at hl 2 rfl) ?_
                refine dk_get (k := 12) hx hb hts iX2_number_2 hown hK (dk_at12 hW) rfl 2 (by decide) (hts (.fieldLink RX2 30 "DogKings$Reader" "at" "I") (List.mem_of_getElem? (i := 1) rfl)) rfl dX2_number_66 ?_
                refine lv_topi (fun v93 ev93 => ?_)
                have dv93 : dkN [(0, 89)] v93 := by rw [ev93]; exact (by rw [hF89 12 2 rfl]; exact (by rw [hF17 12 2 rfl]; exact f15))
                have xv93 : v93 = I0 12 2 := ev93.trans rfl
                refine lv_icmp_eq (tgt := 83) hx hb dX2_number_69 (by decide) (fun c94 => ?_) (fun c94 => ?_)
                ·
                  exact absurd (congrArg Int32.toInt c94) (by have h0 : v93.toInt = v1.toInt := congrArg Int32.toInt (xv93.trans xv1.symm); have h1 : v52.toInt = v1.toInt + 1 := (by rw [ev52]; exact dk_inc d14 rfl); omega)
                ·
                  have q95 : ((I0 12 2) + 1).toInt ≠ (I0 12 2).toInt := by first | (rw [← xv52, ← xv93]; exact (dk_ne c94)) | (subst xv52 xv93; exact (dk_ne c94))
                  refine lv_iload hx hb dX2_number_72 (lv_at hl 0 rfl) ?_
                  refine lv_aload_n hx hb dX2_number_74 rfl (lv_at hl 2 rfl) ?_
                  refine dk_get (k := 12) hx hb hts iX2_number_2 hown hK (dk_at12 hW) rfl 2 (by decide) (hts (.fieldLink RX2 30 "DogKings$Reader" "at" "I") (List.mem_of_getElem? (i := 1) rfl)) rfl dX2_number_75 ?_
                  refine lv_topi (fun v96 ev96 => ?_)
                  have dv96 : dkN [(0, 89)] v96 := by rw [ev96]; exact (by rw [hF89 12 2 rfl]; exact (by rw [hF17 12 2 rfl]; exact f15))
                  have xv96 : v96 = I0 12 2 := ev96.trans rfl
                  refine lv_isub hx hb dX2_number_78 ?_
                  refine lv_topi (fun v97 ev97 => ?_)
                  have dv97 : dkN [(1, 1)] v97 := by rw [ev97]; exact dkN_lit (1) (by have h0 : v96.toInt = v1.toInt := congrArg Int32.toInt (xv96.trans xv1.symm); have h9 := dk_subE (x := v52) (y := v96) d87 dv96 rfl; have h1 : v52.toInt = v1.toInt + 1 := (by rw [ev52]; exact dk_inc d14 rfl); omega)
                  have xv97 : v97 = ((I0 12 2) + 1) - (I0 12 2) := by rw [ev97, xv52, xv96]
                  have q98 : (((I0 12 2) + 1) - (I0 12 2)).toInt = ((I0 12 2) + 1).toInt - (I0 12 2).toInt := by first | (rw [← xv97, ← xv52, ← xv96]; exact (by rw [ev97]; exact dk_subE d87 dv96 rfl)) | (subst xv97 xv52 xv96; exact (by rw [ev97]; exact dk_subE d87 dv96 rfl))
                  refine lv_iconst (v := 2) hx hb dX2_number_79 (by decide) ?_
                  refine lv_icmp_le (tgt := 92) hx hb dX2_number_80 (by decide) (fun c99 => ?_) (fun c99 => ?_)
                  ·
                    have q100 : (((I0 12 2) + 1) - (I0 12 2)).toInt + 0 ≤ (2 : Int) := by first | (rw [← xv97]; exact (dkc_le c99)) | (subst xv97; exact (dkc_le c99))
                    refine lv_iload_n hx hb dX2_number_92 rfl (lv_at hl 1 rfl) ?_
                    refine lv_iload_n hx hb dX2_number_93 rfl (lv_at hl 3 rfl) ?_
                    refine lv_icmp_lt (tgt := 102) hx hb dX2_number_94 (by decide) (fun c101 => ?_) (fun c101 => ?_)
                    ·
                      have q102 : (((0 : Int32) + (I0 13 (Int32.toNatClampNeg (I0 12 2)))) - (48 : Int32)).toInt + 1 ≤ p0.toInt := by first | (rw [← xv50]; exact (dkc_lt c101)) | (subst xv50; exact (dkc_lt c101))
                      have d103 : dkN [(-48, 2)] v50 := dkN_le1 1 dv50 dp0 (dkc_lt c101) rfl
                      refine lv_aload_n hx hb dX2_number_102 rfl (lv_at hl 2 rfl) ?_
                      refine lv_iconst (v := 2) hx hb dX2_number_103 (by decide) ?_
                      refine dk_Vi (As := [.int 2]) (rest := []) ⟨hx, hb, hml, hown, hts⟩ (fx_X2_meets_4 l g z I0 2 (dkN_lit (x := 2) (2) rfl) hO) (cwV 1 hts gX2_number_X2_meets rfl rfl rfl (by decide +kernel) ⟨Nat.le_of_ble_eq_true rfl, Nat.le_of_ble_eq_true rfl⟩) (dk_at12 hW) rfl hK hT hW hS rfl hl.1 rfl (Nat.le_of_ble_eq_true rfl) dX2_number_104 ⟨Nat.zero_le _, Nat.zero_le _⟩ (fun v104 I104 H104 L104 hp104 hW hS => ?_)
                      obtain ⟨hF104, hO, hc104⟩ := hp104
                      have hF := dkF_call hF hF104 rfl
                      obtain ⟨dv104, f104_12_4, f104_12_5, xr104, xh104_0, xh104_1, xh104_2, -⟩ := hc104
                      have y105 : I104 12 2 = I0 12 2 := by have h := xh104_0; exact h
                      have y106 : I104 12 4 = I0 12 2 := by have h := xh104_1; exact h
                      have y107 : I104 12 5 = 2 := by have h := xh104_2; exact h
                      have xv104 : v104 = 0 := by have h := xr104; exact h
                      refine lv_pop hx hb dX2_number_107 rfl ?_
                      refine lv_ldc (v := (-1000000)) hx hb hown (hts (.constant RX2 50 (-1000000)) (List.mem_of_getElem? (i := 4) rfl)) dX2_number_108 ?_
                      exact W.iret (v := (-1000000)) hx hb hr (fun t ht hW9 => ⟨⟨(-1000000), I104, rfl, ⟨hF, hO, Or.inr (Or.inr (Or.inr (Or.inr (Or.inr (Or.inr (Or.inl ⟨dkN_sub (dkN_lit (x := (-1000000)) (-1000000) rfl) rfl, (show dkN [(2, 90)] (I104 12 1) from dkN_sub (by rw [hF104 12 1 rfl]; exact (by rw [hF89 12 1 rfl]; exact f86)) rfl), (show dkN [(0, 89)] (I104 12 2) from dkN_sub (by rw [hF104 12 2 rfl]; exact (by rw [hF89 12 2 rfl]; exact (by rw [hF17 12 2 rfl]; exact f15))) rfl), (show dkN [(0, 90)] (I104 12 4) from dkN_sub f104_12_4 rfl), (show dkN [(2, 2)] (I104 12 5) from dkN_sub f104_12_5 rfl), q11, q37, q38, q43, q45, q49, q51, q53, q84, q90, q95, q98, q100, q102, rfl, y105, y106, y107, trivial⟩))))))⟩, dkW_eq ht hW⟩, hS.F ht⟩) hS.2.2 dX2_number_110
                    ·
                      have q108 : p0.toInt + 0 ≤ (((0 : Int32) + (I0 13 (Int32.toNatClampNeg (I0 12 2)))) - (48 : Int32)).toInt := by first | (rw [← xv50]; exact (dkc_nlt c101)) | (subst xv50; exact (dkc_nlt c101))
                      have d109 : dkN [(3, 207)] v50 := dkN_le2 0 dp0 dv50 (dkc_nlt c101) rfl
                      refine lv_iload_n hx hb dX2_number_97 rfl (lv_at hl 1 rfl) ?_
                      refine lv_iload_n hx hb dX2_number_98 rfl (lv_at hl 4 rfl) ?_
                      refine lv_icmp_le (tgt := 111) hx hb dX2_number_99 (by decide) (fun c110 => ?_) (fun c110 => ?_)
                      ·
                        have q111 : (((0 : Int32) + (I0 13 (Int32.toNatClampNeg (I0 12 2)))) - (48 : Int32)).toInt + 0 ≤ p1.toInt := by first | (rw [← xv50]; exact (dkc_le c110)) | (subst xv50; exact (dkc_le c110))
                        have d112 : dkN [(3, 9)] v50 := dkN_le1 0 d109 dp1 (dkc_le c110) rfl
                        refine lv_aload_n hx hb dX2_number_111 rfl (lv_at hl 2 rfl) ?_
                        refine lv_iload hx hb dX2_number_112 (lv_at hl 0 rfl) ?_
                        refine dk_put (k := 12) hx hb hts iX2_number_2 tyX2 tyX2_ok nmX2 hown hK hW (dk_at12 hW) hS rfl 2 (by decide) (hts (.fieldLink RX2 30 "DogKings$Reader" "at" "I") (List.mem_of_getElem? (i := 1) rfl)) rfl rfl (Nat.le_of_ble_eq_true rfl) rfl dX2_number_114 (fun I113 H113 L113 eI113 hW hS => ?_)
                        have eI113 : I113 = dkU I0 12 2 v52 := eI113
                        have hO := dkO_set hO eI113 (dkN_sub d87 rfl)
                        have hF := dkF_set hF eI113 rfl
                        refine lv_iload_n hx hb dX2_number_117 rfl (lv_at hl 1 rfl) ?_
                        exact W.iret (v := v50) hx hb hr (fun t ht hW9 => ⟨⟨v50, I113, rfl, ⟨hF, hO, Or.inr (Or.inr (Or.inr (Or.inr (Or.inr (Or.inr (Or.inr (Or.inl ⟨dkN_sub d112 rfl, (show dkN [(2, 90)] (I113 12 1) from dkN_sub (by rw [eI113, dkU_sn (by decide)]; exact (by rw [hF89 12 1 rfl]; exact f86)) rfl), (show dkN [(1, 89)] (I113 12 2) from dkN_sub (by rw [eI113, dkU_ss]; exact d87) rfl), q11, q37, q38, q43, q45, q49, q51, q53, q84, q90, q95, q98, q100, q108, q111, xv50, (by rw [eI113, dkU_ss, xv52]), ((by rw [eI113, dkU_sn (by decide)] : I113 12 4 = _).trans rfl), ((by rw [eI113, dkU_sn (by decide)] : I113 12 5 = _).trans rfl), trivial⟩)))))))⟩, dkW_eq ht hW⟩, hS.F ht⟩) hS.2.2 dX2_number_118
                      ·
                        have q114 : p1.toInt + 1 ≤ (((0 : Int32) + (I0 13 (Int32.toNatClampNeg (I0 12 2)))) - (48 : Int32)).toInt := by first | (rw [← xv50]; exact (dkc_nle c110)) | (subst xv50; exact (dkc_nle c110))
                        have d115 : dkN [(10, 207)] v50 := dkN_le2 1 dp1 d109 (dkc_nle c110) rfl
                        refine lv_aload_n hx hb dX2_number_102 rfl (lv_at hl 2 rfl) ?_
                        refine lv_iconst (v := 2) hx hb dX2_number_103 (by decide) ?_
                        refine dk_Vi (As := [.int 2]) (rest := []) ⟨hx, hb, hml, hown, hts⟩ (fx_X2_meets_4 l g z I0 2 (dkN_lit (x := 2) (2) rfl) hO) (cwV 1 hts gX2_number_X2_meets rfl rfl rfl (by decide +kernel) ⟨Nat.le_of_ble_eq_true rfl, Nat.le_of_ble_eq_true rfl⟩) (dk_at12 hW) rfl hK hT hW hS rfl hl.1 rfl (Nat.le_of_ble_eq_true rfl) dX2_number_104 ⟨Nat.zero_le _, Nat.zero_le _⟩ (fun v116 I116 H116 L116 hp116 hW hS => ?_)
                        obtain ⟨hF116, hO, hc116⟩ := hp116
                        have hF := dkF_call hF hF116 rfl
                        obtain ⟨dv116, f116_12_4, f116_12_5, xr116, xh116_0, xh116_1, xh116_2, -⟩ := hc116
                        have y117 : I116 12 2 = I0 12 2 := by have h := xh116_0; exact h
                        have y118 : I116 12 4 = I0 12 2 := by have h := xh116_1; exact h
                        have y119 : I116 12 5 = 2 := by have h := xh116_2; exact h
                        have xv116 : v116 = 0 := by have h := xr116; exact h
                        refine lv_pop hx hb dX2_number_107 rfl ?_
                        refine lv_ldc (v := (-1000000)) hx hb hown (hts (.constant RX2 50 (-1000000)) (List.mem_of_getElem? (i := 4) rfl)) dX2_number_108 ?_
                        exact W.iret (v := (-1000000)) hx hb hr (fun t ht hW9 => ⟨⟨(-1000000), I116, rfl, ⟨hF, hO, Or.inr (Or.inr (Or.inr (Or.inr (Or.inr (Or.inr (Or.inr (Or.inr (Or.inl ⟨dkN_sub (dkN_lit (x := (-1000000)) (-1000000) rfl) rfl, (show dkN [(2, 90)] (I116 12 1) from dkN_sub (by rw [hF116 12 1 rfl]; exact (by rw [hF89 12 1 rfl]; exact f86)) rfl), (show dkN [(0, 89)] (I116 12 2) from dkN_sub (by rw [hF116 12 2 rfl]; exact (by rw [hF89 12 2 rfl]; exact (by rw [hF17 12 2 rfl]; exact f15))) rfl), (show dkN [(0, 90)] (I116 12 4) from dkN_sub f116_12_4 rfl), (show dkN [(2, 2)] (I116 12 5) from dkN_sub f116_12_5 rfl), q11, q37, q38, q43, q45, q49, q51, q53, q84, q90, q95, q98, q100, q108, q114, rfl, y117, y118, y119, trivial⟩))))))))⟩, dkW_eq ht hW⟩, hS.F ht⟩) hS.2.2 dX2_number_110
                  ·
                    exact (dkN_nil (show dkN [] v97 from dkN_le2 1 (dkN_lit (x := 2) (2) rfl) dv97 (dkc_nle c99) rfl)).elim
              ·
                exact absurd ((xv89).trans (rfl).symm) c92
            rcases hc89 with ⟨dv89, a89_0, x89_0, x89_1, xr89, -⟩ | hc89
            ·
              have q120 : (48 : Int) + 0 ≤ (I0 13 (Int32.toNatClampNeg ((I0 12 2) + 1))).toInt := by have h := x89_0; rw [xv88] at h; exact h
              have q121 : (57 : Int) + 1 ≤ (I0 13 (Int32.toNatClampNeg ((I0 12 2) + 1))).toInt := by have h := x89_1; rw [xv88] at h; exact h
              have xv89 : v89 = 0 := by have h := xr89; exact h
              have d122 : dkN [(58, 255)] v88 := dkN_eq1 dv88 a89_0 rfl rfl
              refine lv_if_eq (tgt := 63) hx hb dX2_number_27 (by decide) (fun c123 => ?_) (fun c123 => ?_)
              ·
                refine lv_iload hx hb dX2_number_63 (lv_at hl 0 rfl) ?_
                refine lv_aload_n hx hb dX2_number_65 rfl (lv_at hl 2 rfl) ?_
                refine dk_get (k := 12) hx hb hts iX2_number_2 hown hK (dk_at12 hW) rfl 2 (by decide) (hts (.fieldLink RX2 30 "DogKings$Reader" "at" "I") (List.mem_of_getElem? (i := 1) rfl)) rfl dX2_number_66 ?_
                refine lv_topi (fun v124 ev124 => ?_)
                have dv124 : dkN [(0, 89)] v124 := by rw [ev124]; exact (by rw [hF89 12 2 rfl]; exact (by rw [hF17 12 2 rfl]; exact f15))
                have xv124 : v124 = I0 12 2 := ev124.trans rfl
                refine lv_icmp_eq (tgt := 83) hx hb dX2_number_69 (by decide) (fun c125 => ?_) (fun c125 => ?_)
                ·
                  exact absurd (congrArg Int32.toInt c125) (by have h0 : v124.toInt = v1.toInt := congrArg Int32.toInt (xv124.trans xv1.symm); have h1 : v52.toInt = v1.toInt + 1 := (by rw [ev52]; exact dk_inc d14 rfl); omega)
                ·
                  have q126 : ((I0 12 2) + 1).toInt ≠ (I0 12 2).toInt := by first | (rw [← xv52, ← xv124]; exact (dk_ne c125)) | (subst xv52 xv124; exact (dk_ne c125))
                  refine lv_iload hx hb dX2_number_72 (lv_at hl 0 rfl) ?_
                  refine lv_aload_n hx hb dX2_number_74 rfl (lv_at hl 2 rfl) ?_
                  refine dk_get (k := 12) hx hb hts iX2_number_2 hown hK (dk_at12 hW) rfl 2 (by decide) (hts (.fieldLink RX2 30 "DogKings$Reader" "at" "I") (List.mem_of_getElem? (i := 1) rfl)) rfl dX2_number_75 ?_
                  refine lv_topi (fun v127 ev127 => ?_)
                  have dv127 : dkN [(0, 89)] v127 := by rw [ev127]; exact (by rw [hF89 12 2 rfl]; exact (by rw [hF17 12 2 rfl]; exact f15))
                  have xv127 : v127 = I0 12 2 := ev127.trans rfl
                  refine lv_isub hx hb dX2_number_78 ?_
                  refine lv_topi (fun v128 ev128 => ?_)
                  have dv128 : dkN [(1, 1)] v128 := by rw [ev128]; exact dkN_lit (1) (by have h0 : v127.toInt = v1.toInt := congrArg Int32.toInt (xv127.trans xv1.symm); have h9 := dk_subE (x := v52) (y := v127) d87 dv127 rfl; have h1 : v52.toInt = v1.toInt + 1 := (by rw [ev52]; exact dk_inc d14 rfl); omega)
                  have xv128 : v128 = ((I0 12 2) + 1) - (I0 12 2) := by rw [ev128, xv52, xv127]
                  have q129 : (((I0 12 2) + 1) - (I0 12 2)).toInt = ((I0 12 2) + 1).toInt - (I0 12 2).toInt := by first | (rw [← xv128, ← xv52, ← xv127]; exact (by rw [ev128]; exact dk_subE d87 dv127 rfl)) | (subst xv128 xv52 xv127; exact (by rw [ev128]; exact dk_subE d87 dv127 rfl))
                  refine lv_iconst (v := 2) hx hb dX2_number_79 (by decide) ?_
                  refine lv_icmp_le (tgt := 92) hx hb dX2_number_80 (by decide) (fun c130 => ?_) (fun c130 => ?_)
                  ·
                    have q131 : (((I0 12 2) + 1) - (I0 12 2)).toInt + 0 ≤ (2 : Int) := by first | (rw [← xv128]; exact (dkc_le c130)) | (subst xv128; exact (dkc_le c130))
                    refine lv_iload_n hx hb dX2_number_92 rfl (lv_at hl 1 rfl) ?_
                    refine lv_iload_n hx hb dX2_number_93 rfl (lv_at hl 3 rfl) ?_
                    refine lv_icmp_lt (tgt := 102) hx hb dX2_number_94 (by decide) (fun c132 => ?_) (fun c132 => ?_)
                    ·
                      have q133 : (((0 : Int32) + (I0 13 (Int32.toNatClampNeg (I0 12 2)))) - (48 : Int32)).toInt + 1 ≤ p0.toInt := by first | (rw [← xv50]; exact (dkc_lt c132)) | (subst xv50; exact (dkc_lt c132))
                      have d134 : dkN [(-48, 2)] v50 := dkN_le1 1 dv50 dp0 (dkc_lt c132) rfl
                      refine lv_aload_n hx hb dX2_number_102 rfl (lv_at hl 2 rfl) ?_
                      refine lv_iconst (v := 2) hx hb dX2_number_103 (by decide) ?_
                      refine dk_Vi (As := [.int 2]) (rest := []) ⟨hx, hb, hml, hown, hts⟩ (fx_X2_meets_4 l g z I0 2 (dkN_lit (x := 2) (2) rfl) hO) (cwV 1 hts gX2_number_X2_meets rfl rfl rfl (by decide +kernel) ⟨Nat.le_of_ble_eq_true rfl, Nat.le_of_ble_eq_true rfl⟩) (dk_at12 hW) rfl hK hT hW hS rfl hl.1 rfl (Nat.le_of_ble_eq_true rfl) dX2_number_104 ⟨Nat.zero_le _, Nat.zero_le _⟩ (fun v135 I135 H135 L135 hp135 hW hS => ?_)
                      obtain ⟨hF135, hO, hc135⟩ := hp135
                      have hF := dkF_call hF hF135 rfl
                      obtain ⟨dv135, f135_12_4, f135_12_5, xr135, xh135_0, xh135_1, xh135_2, -⟩ := hc135
                      have y136 : I135 12 2 = I0 12 2 := by have h := xh135_0; exact h
                      have y137 : I135 12 4 = I0 12 2 := by have h := xh135_1; exact h
                      have y138 : I135 12 5 = 2 := by have h := xh135_2; exact h
                      have xv135 : v135 = 0 := by have h := xr135; exact h
                      refine lv_pop hx hb dX2_number_107 rfl ?_
                      refine lv_ldc (v := (-1000000)) hx hb hown (hts (.constant RX2 50 (-1000000)) (List.mem_of_getElem? (i := 4) rfl)) dX2_number_108 ?_
                      exact W.iret (v := (-1000000)) hx hb hr (fun t ht hW9 => ⟨⟨(-1000000), I135, rfl, ⟨hF, hO, Or.inr (Or.inr (Or.inr (Or.inr (Or.inr (Or.inr (Or.inr (Or.inr (Or.inr (Or.inl ⟨dkN_sub (dkN_lit (x := (-1000000)) (-1000000) rfl) rfl, (show dkN [(2, 90)] (I135 12 1) from dkN_sub (by rw [hF135 12 1 rfl]; exact (by rw [hF89 12 1 rfl]; exact f86)) rfl), (show dkN [(0, 89)] (I135 12 2) from dkN_sub (by rw [hF135 12 2 rfl]; exact (by rw [hF89 12 2 rfl]; exact (by rw [hF17 12 2 rfl]; exact f15))) rfl), (show dkN [(0, 90)] (I135 12 4) from dkN_sub f135_12_4 rfl), (show dkN [(2, 2)] (I135 12 5) from dkN_sub f135_12_5 rfl), q11, q37, q38, q43, q45, q49, q51, q53, q84, q120, q121, q126, q129, q131, q133, rfl, y136, y137, y138, trivial⟩)))))))))⟩, dkW_eq ht hW⟩, hS.F ht⟩) hS.2.2 dX2_number_110
                    ·
                      have q139 : p0.toInt + 0 ≤ (((0 : Int32) + (I0 13 (Int32.toNatClampNeg (I0 12 2)))) - (48 : Int32)).toInt := by first | (rw [← xv50]; exact (dkc_nlt c132)) | (subst xv50; exact (dkc_nlt c132))
                      have d140 : dkN [(3, 207)] v50 := dkN_le2 0 dp0 dv50 (dkc_nlt c132) rfl
                      refine lv_iload_n hx hb dX2_number_97 rfl (lv_at hl 1 rfl) ?_
                      refine lv_iload_n hx hb dX2_number_98 rfl (lv_at hl 4 rfl) ?_
                      refine lv_icmp_le (tgt := 111) hx hb dX2_number_99 (by decide) (fun c141 => ?_) (fun c141 => ?_)
                      ·
                        have q142 : (((0 : Int32) + (I0 13 (Int32.toNatClampNeg (I0 12 2)))) - (48 : Int32)).toInt + 0 ≤ p1.toInt := by first | (rw [← xv50]; exact (dkc_le c141)) | (subst xv50; exact (dkc_le c141))
                        have d143 : dkN [(3, 9)] v50 := dkN_le1 0 d140 dp1 (dkc_le c141) rfl
                        refine lv_aload_n hx hb dX2_number_111 rfl (lv_at hl 2 rfl) ?_
                        refine lv_iload hx hb dX2_number_112 (lv_at hl 0 rfl) ?_
                        refine dk_put (k := 12) hx hb hts iX2_number_2 tyX2 tyX2_ok nmX2 hown hK hW (dk_at12 hW) hS rfl 2 (by decide) (hts (.fieldLink RX2 30 "DogKings$Reader" "at" "I") (List.mem_of_getElem? (i := 1) rfl)) rfl rfl (Nat.le_of_ble_eq_true rfl) rfl dX2_number_114 (fun I144 H144 L144 eI144 hW hS => ?_)
                        have eI144 : I144 = dkU I0 12 2 v52 := eI144
                        have hO := dkO_set hO eI144 (dkN_sub d87 rfl)
                        have hF := dkF_set hF eI144 rfl
                        refine lv_iload_n hx hb dX2_number_117 rfl (lv_at hl 1 rfl) ?_
                        exact W.iret (v := v50) hx hb hr (fun t ht hW9 => ⟨⟨v50, I144, rfl, ⟨hF, hO, Or.inr (Or.inr (Or.inr (Or.inr (Or.inr (Or.inr (Or.inr (Or.inr (Or.inr (Or.inr (Or.inl ⟨dkN_sub d143 rfl, (show dkN [(2, 90)] (I144 12 1) from dkN_sub (by rw [eI144, dkU_sn (by decide)]; exact (by rw [hF89 12 1 rfl]; exact f86)) rfl), (show dkN [(1, 89)] (I144 12 2) from dkN_sub (by rw [eI144, dkU_ss]; exact d87) rfl), q11, q37, q38, q43, q45, q49, q51, q53, q84, q120, q121, q126, q129, q131, q139, q142, xv50, (by rw [eI144, dkU_ss, xv52]), ((by rw [eI144, dkU_sn (by decide)] : I144 12 4 = _).trans rfl), ((by rw [eI144, dkU_sn (by decide)] : I144 12 5 = _).trans rfl), trivial⟩))))))))))⟩, dkW_eq ht hW⟩, hS.F ht⟩) hS.2.2 dX2_number_118
                      ·
                        have q145 : p1.toInt + 1 ≤ (((0 : Int32) + (I0 13 (Int32.toNatClampNeg (I0 12 2)))) - (48 : Int32)).toInt := by first | (rw [← xv50]; exact (dkc_nle c141)) | (subst xv50; exact (dkc_nle c141))
                        have d146 : dkN [(10, 207)] v50 := dkN_le2 1 dp1 d140 (dkc_nle c141) rfl
                        refine lv_aload_n hx hb dX2_number_102 rfl (lv_at hl 2 rfl) ?_
                        refine lv_iconst (v := 2) hx hb dX2_number_103 (by decide) ?_
                        refine dk_Vi (As := [.int 2]) (rest := []) ⟨hx, hb, hml, hown, hts⟩ (fx_X2_meets_4 l g z I0 2 (dkN_lit (x := 2) (2) rfl) hO) (cwV 1 hts gX2_number_X2_meets rfl rfl rfl (by decide +kernel) ⟨Nat.le_of_ble_eq_true rfl, Nat.le_of_ble_eq_true rfl⟩) (dk_at12 hW) rfl hK hT hW hS rfl hl.1 rfl (Nat.le_of_ble_eq_true rfl) dX2_number_104 ⟨Nat.zero_le _, Nat.zero_le _⟩ (fun v147 I147 H147 L147 hp147 hW hS => ?_)
                        obtain ⟨hF147, hO, hc147⟩ := hp147
                        have hF := dkF_call hF hF147 rfl
                        obtain ⟨dv147, f147_12_4, f147_12_5, xr147, xh147_0, xh147_1, xh147_2, -⟩ := hc147
                        have y148 : I147 12 2 = I0 12 2 := by have h := xh147_0; exact h
                        have y149 : I147 12 4 = I0 12 2 := by have h := xh147_1; exact h
                        have y150 : I147 12 5 = 2 := by have h := xh147_2; exact h
                        have xv147 : v147 = 0 := by have h := xr147; exact h
                        refine lv_pop hx hb dX2_number_107 rfl ?_
                        refine lv_ldc (v := (-1000000)) hx hb hown (hts (.constant RX2 50 (-1000000)) (List.mem_of_getElem? (i := 4) rfl)) dX2_number_108 ?_
                        exact W.iret (v := (-1000000)) hx hb hr (fun t ht hW9 => ⟨⟨(-1000000), I147, rfl, ⟨hF, hO, Or.inr (Or.inr (Or.inr (Or.inr (Or.inr (Or.inr (Or.inr (Or.inr (Or.inr (Or.inr (Or.inr (Or.inl ⟨dkN_sub (dkN_lit (x := (-1000000)) (-1000000) rfl) rfl, (show dkN [(2, 90)] (I147 12 1) from dkN_sub (by rw [hF147 12 1 rfl]; exact (by rw [hF89 12 1 rfl]; exact f86)) rfl), (show dkN [(0, 89)] (I147 12 2) from dkN_sub (by rw [hF147 12 2 rfl]; exact (by rw [hF89 12 2 rfl]; exact (by rw [hF17 12 2 rfl]; exact f15))) rfl), (show dkN [(0, 90)] (I147 12 4) from dkN_sub f147_12_4 rfl), (show dkN [(2, 2)] (I147 12 5) from dkN_sub f147_12_5 rfl), q11, q37, q38, q43, q45, q49, q51, q53, q84, q120, q121, q126, q129, q131, q139, q145, rfl, y148, y149, y150, trivial⟩)))))))))))⟩, dkW_eq ht hW⟩, hS.F ht⟩) hS.2.2 dX2_number_110
                  ·
                    exact (dkN_nil (show dkN [] v128 from dkN_le2 1 (dkN_lit (x := 2) (2) rfl) dv128 (dkc_nle c130) rfl)).elim
              ·
                exact absurd ((xv89).trans (rfl).symm) c123
            ·
              obtain ⟨dv89, a89_0, x89_0, x89_1, xr89, -⟩ := hc89
              have q151 : (48 : Int) + 0 ≤ (I0 13 (Int32.toNatClampNeg ((I0 12 2) + 1))).toInt := by have h := x89_0; rw [xv88] at h; exact h
              have q152 : (I0 13 (Int32.toNatClampNeg ((I0 12 2) + 1))).toInt + 0 ≤ (57 : Int) := by have h := x89_1; rw [xv88] at h; exact h
              have xv89 : v89 = 1 := by have h := xr89; exact h
              have d153 : dkN [(48, 57)] v88 := dkN_eq1 dv88 a89_0 rfl rfl
              refine lv_if_eq (tgt := 63) hx hb dX2_number_27 (by decide) (fun c154 => ?_) (fun c154 => ?_)
              ·
                exact (dkN_nil (show dkN [] v89 from dkN_eq1 dv89 (dkN_lit (x := 0) (0) rfl) (congrArg Int32.toInt c154) rfl)).elim
              ·
                refine lv_iload hx hb dX2_number_30 (lv_at hl 0 rfl) ?_
                refine lv_aload_n hx hb dX2_number_32 rfl (lv_at hl 2 rfl) ?_
                refine dk_get (k := 12) hx hb hts iX2_number_2 hown hK (dk_at12 hW) rfl 2 (by decide) (hts (.fieldLink RX2 30 "DogKings$Reader" "at" "I") (List.mem_of_getElem? (i := 1) rfl)) rfl dX2_number_33 ?_
                refine lv_topi (fun v155 ev155 => ?_)
                have dv155 : dkN [(0, 89)] v155 := by rw [ev155]; exact (by rw [hF89 12 2 rfl]; exact (by rw [hF17 12 2 rfl]; exact f15))
                have xv155 : v155 = I0 12 2 := ev155.trans rfl
                refine lv_isub hx hb dX2_number_36 ?_
                refine lv_topi (fun v156 ev156 => ?_)
                have dv156 : dkN [(1, 1)] v156 := by rw [ev156]; exact dkN_lit (1) (by have h0 : v155.toInt = v1.toInt := congrArg Int32.toInt (xv155.trans xv1.symm); have h9 := dk_subE (x := v52) (y := v155) d87 dv155 rfl; have h1 : v52.toInt = v1.toInt + 1 := (by rw [ev52]; exact dk_inc d14 rfl); omega)
                have xv156 : v156 = ((I0 12 2) + 1) - (I0 12 2) := by rw [ev156, xv52, xv155]
                have q157 : (((I0 12 2) + 1) - (I0 12 2)).toInt = ((I0 12 2) + 1).toInt - (I0 12 2).toInt := by first | (rw [← xv156, ← xv52, ← xv155]; exact (by rw [ev156]; exact dk_subE d87 dv155 rfl)) | (subst xv156 xv52 xv155; exact (by rw [ev156]; exact dk_subE d87 dv155 rfl))
                refine lv_iconst (v := 3) hx hb dX2_number_37 (by decide) ?_
                refine lv_icmp_ge (tgt := 63) hx hb dX2_number_38 (by decide) (fun c158 => ?_) (fun c158 => ?_)
                ·
                  exact (dkN_nil (show dkN [] 3 from dkN_le1 0 (dkN_lit (x := 3) (3) rfl) dv156 (dkc_le c158) rfl)).elim
                ·
                  have q159 : (((I0 12 2) + 1) - (I0 12 2)).toInt + 1 ≤ (3 : Int) := by first | (rw [← xv156]; exact (dkc_nle c158)) | (subst xv156; exact (dkc_nle c158))
                  refine lv_bipush (v := 10) hx hb dX2_number_41 (by decide) ?_
                  refine lv_iload_n hx hb dX2_number_43 rfl (lv_at hl 1 rfl) ?_
                  refine lv_imul hx hb dX2_number_44 ?_
                  refine lv_topi (fun v160 ev160 => ?_)
                  have dv160 : dkN [(-480, 2070)] v160 := by rw [ev160]; exact dkN_mulL 10 (by decide) (dkN_lit (x := 10) (10) rfl) dv50 rfl
                  have xv160 : v160 = (10 : Int32) * (((0 : Int32) + (I0 13 (Int32.toNatClampNeg (I0 12 2)))) - (48 : Int32)) := by rw [ev160, xv50]
                  have q161 : ((10 : Int32) * (((0 : Int32) + (I0 13 (Int32.toNatClampNeg (I0 12 2)))) - (48 : Int32))).toInt = (10 : Int) * (((0 : Int32) + (I0 13 (Int32.toNatClampNeg (I0 12 2)))) - (48 : Int32)).toInt := by first | (rw [← xv160, ← xv50]; exact (by rw [ev160]; exact dk_mulE 10 (x := 10) rfl dv50 (by decide) rfl)) | (subst xv160 xv50; exact (by rw [ev160]; exact dk_mulE 10 (x := 10) rfl dv50 (by decide) rfl))
                  refine lv_aload_n hx hb dX2_number_45 rfl (lv_at hl 2 rfl) ?_
                  refine dk_get (k := 12) hx hb hts iX2_number_2 hown hK (dk_at12 hW) rfl 0 (by decide) (hts (.fieldLink RX2 11 "DogKings$Reader" "tape" "[I") (List.mem_of_getElem? (i := 3) rfl)) rfl dX2_number_46 ?_
                  refine lv_iload hx hb dX2_number_49 (lv_at hl 0 rfl) ?_
                  refine dk_ild (k := 13) hx hb hK (dk_at13 hW) (dkN_in (n := 90) d87 rfl) dX2_number_51 ?_
                  refine lv_topi (fun v162 ev162 => ?_)
                  have dv162 : dkN [(0, 255)] v162 := by rw [ev162]; exact (hO 13 _)
                  have xv162 : v162 = I0 13 (Int32.toNatClampNeg ((I0 12 2) + 1)) := ev162.trans (by rw [xv52])
                  refine lv_iadd hx hb dX2_number_52 ?_
                  refine lv_topi (fun v163 ev163 => ?_)
                  have dv163 : dkN [(-480, 2325)] v163 := by rw [ev163]; exact dkN_add dv160 dv162 rfl
                  have xv163 : v163 = ((10 : Int32) * (((0 : Int32) + (I0 13 (Int32.toNatClampNeg (I0 12 2)))) - (48 : Int32))) + (I0 13 (Int32.toNatClampNeg ((I0 12 2) + 1))) := by rw [ev163, xv160, xv162]
                  have q164 : (((10 : Int32) * (((0 : Int32) + (I0 13 (Int32.toNatClampNeg (I0 12 2)))) - (48 : Int32))) + (I0 13 (Int32.toNatClampNeg ((I0 12 2) + 1)))).toInt = ((10 : Int32) * (((0 : Int32) + (I0 13 (Int32.toNatClampNeg (I0 12 2)))) - (48 : Int32))).toInt + (I0 13 (Int32.toNatClampNeg ((I0 12 2) + 1))).toInt := by first | (rw [← xv163, ← xv160, ← xv162]; exact (by rw [ev163]; exact dk_addE dv160 dv162 rfl)) | (subst xv163 xv160 xv162; exact (by rw [ev163]; exact dk_addE dv160 dv162 rfl))
                  refine lv_bipush (v := 48) hx hb dX2_number_53 (by decide) ?_
                  refine lv_isub hx hb dX2_number_55 ?_
                  refine lv_topi (fun v165 ev165 => ?_)
                  have dv165 : dkN [(-528, 2277)] v165 := by rw [ev165]; exact dkN_subt dv163 (dkN_lit (x := 48) (48) rfl) rfl
                  have xv165 : v165 = (((10 : Int32) * (((0 : Int32) + (I0 13 (Int32.toNatClampNeg (I0 12 2)))) - (48 : Int32))) + (I0 13 (Int32.toNatClampNeg ((I0 12 2) + 1)))) - (48 : Int32) := by rw [ev165, xv163]
                  have q166 : ((((10 : Int32) * (((0 : Int32) + (I0 13 (Int32.toNatClampNeg (I0 12 2)))) - (48 : Int32))) + (I0 13 (Int32.toNatClampNeg ((I0 12 2) + 1)))) - (48 : Int32)).toInt = (((10 : Int32) * (((0 : Int32) + (I0 13 (Int32.toNatClampNeg (I0 12 2)))) - (48 : Int32))) + (I0 13 (Int32.toNatClampNeg ((I0 12 2) + 1)))).toInt - (48 : Int) := by first | (rw [← xv165, ← xv163]; exact (by rw [ev165]; exact dk_subE dv163 (dkN_lit (x := 48) (48) rfl) rfl)) | (subst xv165 xv163; exact (by rw [ev165]; exact dk_subE dv163 (dkN_lit (x := 48) (48) rfl) rfl))
                  refine lv_istore_n (lv' := [(3, .int v165), (4, .int v52), (0, .ref (z + 12)), (1, .int p0), (2, .int p1)]) hx hb dX2_number_56 rfl hl (by decide) rfl (fun ls hl => ?_)
                  obtain ⟨v167, ev167⟩ : ∃ y : Int32, y = v52 + 1 := ⟨_, rfl⟩
                  have dv167 : dkN [(2, 90)] v167 := by rw [ev167]; exact dkN_add d87 (dkN_lit (x := 1) (1) rfl) rfl
                  have xv167 : v167 = ((I0 12 2) + 1) + 1 := by rw [ev167, xv52]
                  have q168 : (((I0 12 2) + 1) + 1).toInt = ((I0 12 2) + 1).toInt + (1 : Int) := by first | (rw [← xv167, ← xv52]; exact (by rw [ev167]; exact dk_addE d87 (dkN_lit (x := 1) (1) rfl) rfl)) | (subst xv167 xv52; exact (by rw [ev167]; exact dk_addE d87 (dkN_lit (x := 1) (1) rfl) rfl))
                  refine lv_iinc (v := v167) (lv' := [(4, .int v167), (3, .int v165), (0, .ref (z + 12)), (1, .int p0), (2, .int p1)]) hx hb dX2_number_57 hl (k := 1) rfl (by rw [ev167]; rfl) (by decide) rfl (fun ls hl => ?_)
                  refine lv_goto (tgt := 8) hx hb dX2_number_60 (by decide) ?_
                  refine lv_iload hx hb dX2_number_8 (lv_at hl 0 rfl) ?_
                  refine lv_aload_n hx hb dX2_number_10 rfl (lv_at hl 2 rfl) ?_
                  refine dk_get (k := 12) hx hb hts iX2_number_2 hown hK (dk_at12 hW) rfl 1 (by decide) (hts (.fieldLink RX2 22 "DogKings$Reader" "bytes" "I") (List.mem_of_getElem? (i := 2) rfl)) rfl dX2_number_11 ?_
                  refine lv_topi (fun v169 ev169 => ?_)
                  have dv169 : dkN [(2, 90)] v169 := by rw [ev169]; exact (by rw [hF89 12 1 rfl]; exact f86)
                  have xv169 : v169 = I0 12 1 := ev169.trans rfl
                  refine lv_icmp_ge (tgt := 63) hx hb dX2_number_14 (by decide) (fun c170 => ?_) (fun c170 => ?_)
                  ·
                    have q171 : (I0 12 1).toInt + 0 ≤ (((I0 12 2) + 1) + 1).toInt := by first | (rw [← xv169, ← xv167]; exact (dkc_le c170)) | (subst xv169 xv167; exact (dkc_le c170))
                    refine lv_iload hx hb dX2_number_63 (lv_at hl 0 rfl) ?_
                    refine lv_aload_n hx hb dX2_number_65 rfl (lv_at hl 2 rfl) ?_
                    refine dk_get (k := 12) hx hb hts iX2_number_2 hown hK (dk_at12 hW) rfl 2 (by decide) (hts (.fieldLink RX2 30 "DogKings$Reader" "at" "I") (List.mem_of_getElem? (i := 1) rfl)) rfl dX2_number_66 ?_
                    refine lv_topi (fun v172 ev172 => ?_)
                    have dv172 : dkN [(0, 89)] v172 := by rw [ev172]; exact (by rw [hF89 12 2 rfl]; exact (by rw [hF17 12 2 rfl]; exact f15))
                    have xv172 : v172 = I0 12 2 := ev172.trans rfl
                    refine lv_icmp_eq (tgt := 83) hx hb dX2_number_69 (by decide) (fun c173 => ?_) (fun c173 => ?_)
                    ·
                      exact absurd (congrArg Int32.toInt c173) (by have h0 : v172.toInt = v1.toInt := congrArg Int32.toInt (xv172.trans xv1.symm); have h1 : v167.toInt = v52.toInt + 1 := (by rw [ev167]; exact dk_inc d87 rfl); have h2 : v52.toInt = v1.toInt + 1 := (by rw [ev52]; exact dk_inc d14 rfl); omega)
                    ·
                      have q174 : (((I0 12 2) + 1) + 1).toInt ≠ (I0 12 2).toInt := by first | (rw [← xv167, ← xv172]; exact (dk_ne c173)) | (subst xv167 xv172; exact (dk_ne c173))
                      refine lv_iload hx hb dX2_number_72 (lv_at hl 0 rfl) ?_
                      refine lv_aload_n hx hb dX2_number_74 rfl (lv_at hl 2 rfl) ?_
                      refine dk_get (k := 12) hx hb hts iX2_number_2 hown hK (dk_at12 hW) rfl 2 (by decide) (hts (.fieldLink RX2 30 "DogKings$Reader" "at" "I") (List.mem_of_getElem? (i := 1) rfl)) rfl dX2_number_75 ?_
                      refine lv_topi (fun v175 ev175 => ?_)
                      have dv175 : dkN [(0, 89)] v175 := by rw [ev175]; exact (by rw [hF89 12 2 rfl]; exact (by rw [hF17 12 2 rfl]; exact f15))
                      have xv175 : v175 = I0 12 2 := ev175.trans rfl
                      refine lv_isub hx hb dX2_number_78 ?_
                      refine lv_topi (fun v176 ev176 => ?_)
                      have dv176 : dkN [(2, 2)] v176 := by rw [ev176]; exact dkN_lit (2) (by have h0 : v175.toInt = v1.toInt := congrArg Int32.toInt (xv175.trans xv1.symm); have h9 := dk_subE (x := v167) (y := v175) dv167 dv175 rfl; have h1 : v167.toInt = v52.toInt + 1 := (by rw [ev167]; exact dk_inc d87 rfl); have h2 : v52.toInt = v1.toInt + 1 := (by rw [ev52]; exact dk_inc d14 rfl); omega)
                      have xv176 : v176 = (((I0 12 2) + 1) + 1) - (I0 12 2) := by rw [ev176, xv167, xv175]
                      have q177 : ((((I0 12 2) + 1) + 1) - (I0 12 2)).toInt = (((I0 12 2) + 1) + 1).toInt - (I0 12 2).toInt := by first | (rw [← xv176, ← xv167, ← xv175]; exact (by rw [ev176]; exact dk_subE dv167 dv175 rfl)) | (subst xv176 xv167 xv175; exact (by rw [ev176]; exact dk_subE dv167 dv175 rfl))
                      refine lv_iconst (v := 2) hx hb dX2_number_79 (by decide) ?_
                      refine lv_icmp_le (tgt := 92) hx hb dX2_number_80 (by decide) (fun c178 => ?_) (fun c178 => ?_)
                      ·
                        have q179 : ((((I0 12 2) + 1) + 1) - (I0 12 2)).toInt + 0 ≤ (2 : Int) := by first | (rw [← xv176]; exact (dkc_le c178)) | (subst xv176; exact (dkc_le c178))
                        refine lv_iload_n hx hb dX2_number_92 rfl (lv_at hl 1 rfl) ?_
                        refine lv_iload_n hx hb dX2_number_93 rfl (lv_at hl 3 rfl) ?_
                        refine lv_icmp_lt (tgt := 102) hx hb dX2_number_94 (by decide) (fun c180 => ?_) (fun c180 => ?_)
                        ·
                          have q181 : ((((10 : Int32) * (((0 : Int32) + (I0 13 (Int32.toNatClampNeg (I0 12 2)))) - (48 : Int32))) + (I0 13 (Int32.toNatClampNeg ((I0 12 2) + 1)))) - (48 : Int32)).toInt + 1 ≤ p0.toInt := by first | (rw [← xv165]; exact (dkc_lt c180)) | (subst xv165; exact (dkc_lt c180))
                          have d182 : dkN [(-528, 2)] v165 := dkN_le1 1 dv165 dp0 (dkc_lt c180) rfl
                          refine lv_aload_n hx hb dX2_number_102 rfl (lv_at hl 2 rfl) ?_
                          refine lv_iconst (v := 2) hx hb dX2_number_103 (by decide) ?_
                          refine dk_Vi (As := [.int 2]) (rest := []) ⟨hx, hb, hml, hown, hts⟩ (fx_X2_meets_4 l g z I0 2 (dkN_lit (x := 2) (2) rfl) hO) (cwV 1 hts gX2_number_X2_meets rfl rfl rfl (by decide +kernel) ⟨Nat.le_of_ble_eq_true rfl, Nat.le_of_ble_eq_true rfl⟩) (dk_at12 hW) rfl hK hT hW hS rfl hl.1 rfl (Nat.le_of_ble_eq_true rfl) dX2_number_104 ⟨Nat.zero_le _, Nat.zero_le _⟩ (fun v183 I183 H183 L183 hp183 hW hS => ?_)
                          obtain ⟨hF183, hO, hc183⟩ := hp183
                          have hF := dkF_call hF hF183 rfl
                          obtain ⟨dv183, f183_12_4, f183_12_5, xr183, xh183_0, xh183_1, xh183_2, -⟩ := hc183
                          have y184 : I183 12 2 = I0 12 2 := by have h := xh183_0; exact h
                          have y185 : I183 12 4 = I0 12 2 := by have h := xh183_1; exact h
                          have y186 : I183 12 5 = 2 := by have h := xh183_2; exact h
                          have xv183 : v183 = 0 := by have h := xr183; exact h
                          refine lv_pop hx hb dX2_number_107 rfl ?_
                          refine lv_ldc (v := (-1000000)) hx hb hown (hts (.constant RX2 50 (-1000000)) (List.mem_of_getElem? (i := 4) rfl)) dX2_number_108 ?_
                          exact W.iret (v := (-1000000)) hx hb hr (fun t ht hW9 => ⟨⟨(-1000000), I183, rfl, ⟨hF, hO, Or.inr (Or.inr (Or.inr (Or.inr (Or.inr (Or.inr (Or.inr (Or.inr (Or.inr (Or.inr (Or.inr (Or.inr (Or.inl ⟨dkN_sub (dkN_lit (x := (-1000000)) (-1000000) rfl) rfl, (show dkN [(2, 90)] (I183 12 1) from dkN_sub (by rw [hF183 12 1 rfl]; exact (by rw [hF89 12 1 rfl]; exact f86)) rfl), (show dkN [(0, 89)] (I183 12 2) from dkN_sub (by rw [hF183 12 2 rfl]; exact (by rw [hF89 12 2 rfl]; exact (by rw [hF17 12 2 rfl]; exact f15))) rfl), (show dkN [(0, 90)] (I183 12 4) from dkN_sub f183_12_4 rfl), (show dkN [(2, 2)] (I183 12 5) from dkN_sub f183_12_5 rfl), q11, q37, q38, q43, q45, q49, q51, q53, q84, q151, q152, q157, q159, q161, q164, q166, q168, q171, q174, q177, q179, q181, rfl, y184, y185, y186, trivial⟩))))))))))))⟩, dkW_eq ht hW⟩, hS.F ht⟩) hS.2.2 dX2_number_110
                        ·
                          have q187 : p0.toInt + 0 ≤ ((((10 : Int32) * (((0 : Int32) + (I0 13 (Int32.toNatClampNeg (I0 12 2)))) - (48 : Int32))) + (I0 13 (Int32.toNatClampNeg ((I0 12 2) + 1)))) - (48 : Int32)).toInt := by first | (rw [← xv165]; exact (dkc_nlt c180)) | (subst xv165; exact (dkc_nlt c180))
                          have d188 : dkN [(3, 2277)] v165 := dkN_le2 0 dp0 dv165 (dkc_nlt c180) rfl
                          refine lv_iload_n hx hb dX2_number_97 rfl (lv_at hl 1 rfl) ?_
                          refine lv_iload_n hx hb dX2_number_98 rfl (lv_at hl 4 rfl) ?_
                          refine lv_icmp_le (tgt := 111) hx hb dX2_number_99 (by decide) (fun c189 => ?_) (fun c189 => ?_)
                          ·
                            have q190 : ((((10 : Int32) * (((0 : Int32) + (I0 13 (Int32.toNatClampNeg (I0 12 2)))) - (48 : Int32))) + (I0 13 (Int32.toNatClampNeg ((I0 12 2) + 1)))) - (48 : Int32)).toInt + 0 ≤ p1.toInt := by first | (rw [← xv165]; exact (dkc_le c189)) | (subst xv165; exact (dkc_le c189))
                            have d191 : dkN [(3, 9)] v165 := dkN_le1 0 d188 dp1 (dkc_le c189) rfl
                            refine lv_aload_n hx hb dX2_number_111 rfl (lv_at hl 2 rfl) ?_
                            refine lv_iload hx hb dX2_number_112 (lv_at hl 0 rfl) ?_
                            refine dk_put (k := 12) hx hb hts iX2_number_2 tyX2 tyX2_ok nmX2 hown hK hW (dk_at12 hW) hS rfl 2 (by decide) (hts (.fieldLink RX2 30 "DogKings$Reader" "at" "I") (List.mem_of_getElem? (i := 1) rfl)) rfl rfl (Nat.le_of_ble_eq_true rfl) rfl dX2_number_114 (fun I192 H192 L192 eI192 hW hS => ?_)
                            have eI192 : I192 = dkU I0 12 2 v167 := eI192
                            have hO := dkO_set hO eI192 (dkN_sub dv167 rfl)
                            have hF := dkF_set hF eI192 rfl
                            refine lv_iload_n hx hb dX2_number_117 rfl (lv_at hl 1 rfl) ?_
                            exact W.iret (v := v165) hx hb hr (fun t ht hW9 => ⟨⟨v165, I192, rfl, ⟨hF, hO, Or.inr (Or.inr (Or.inr (Or.inr (Or.inr (Or.inr (Or.inr (Or.inr (Or.inr (Or.inr (Or.inr (Or.inr (Or.inr (Or.inl ⟨dkN_sub d191 rfl, (show dkN [(2, 90)] (I192 12 1) from dkN_sub (by rw [eI192, dkU_sn (by decide)]; exact (by rw [hF89 12 1 rfl]; exact f86)) rfl), (show dkN [(2, 90)] (I192 12 2) from dkN_sub (by rw [eI192, dkU_ss]; exact dv167) rfl), q11, q37, q38, q43, q45, q49, q51, q53, q84, q151, q152, q157, q159, q161, q164, q166, q168, q171, q174, q177, q179, q187, q190, xv165, (by rw [eI192, dkU_ss, xv167]), ((by rw [eI192, dkU_sn (by decide)] : I192 12 4 = _).trans rfl), ((by rw [eI192, dkU_sn (by decide)] : I192 12 5 = _).trans rfl), trivial⟩)))))))))))))⟩, dkW_eq ht hW⟩, hS.F ht⟩) hS.2.2 dX2_number_118
                          ·
                            have q193 : p1.toInt + 1 ≤ ((((10 : Int32) * (((0 : Int32) + (I0 13 (Int32.toNatClampNeg (I0 12 2)))) - (48 : Int32))) + (I0 13 (Int32.toNatClampNeg ((I0 12 2) + 1)))) - (48 : Int32)).toInt := by first | (rw [← xv165]; exact (dkc_nle c189)) | (subst xv165; exact (dkc_nle c189))
                            have d194 : dkN [(10, 2277)] v165 := dkN_le2 1 dp1 d188 (dkc_nle c189) rfl
                            refine lv_aload_n hx hb dX2_number_102 rfl (lv_at hl 2 rfl) ?_
                            refine lv_iconst (v := 2) hx hb dX2_number_103 (by decide) ?_
                            refine dk_Vi (As := [.int 2]) (rest := []) ⟨hx, hb, hml, hown, hts⟩ (fx_X2_meets_4 l g z I0 2 (dkN_lit (x := 2) (2) rfl) hO) (cwV 1 hts gX2_number_X2_meets rfl rfl rfl (by decide +kernel) ⟨Nat.le_of_ble_eq_true rfl, Nat.le_of_ble_eq_true rfl⟩) (dk_at12 hW) rfl hK hT hW hS rfl hl.1 rfl (Nat.le_of_ble_eq_true rfl) dX2_number_104 ⟨Nat.zero_le _, Nat.zero_le _⟩ (fun v195 I195 H195 L195 hp195 hW hS => ?_)
                            obtain ⟨hF195, hO, hc195⟩ := hp195
                            have hF := dkF_call hF hF195 rfl
                            obtain ⟨dv195, f195_12_4, f195_12_5, xr195, xh195_0, xh195_1, xh195_2, -⟩ := hc195
                            have y196 : I195 12 2 = I0 12 2 := by have h := xh195_0; exact h
                            have y197 : I195 12 4 = I0 12 2 := by have h := xh195_1; exact h
                            have y198 : I195 12 5 = 2 := by have h := xh195_2; exact h
                            have xv195 : v195 = 0 := by have h := xr195; exact h
                            refine lv_pop hx hb dX2_number_107 rfl ?_
                            refine lv_ldc (v := (-1000000)) hx hb hown (hts (.constant RX2 50 (-1000000)) (List.mem_of_getElem? (i := 4) rfl)) dX2_number_108 ?_
                            exact W.iret (v := (-1000000)) hx hb hr (fun t ht hW9 => ⟨⟨(-1000000), I195, rfl, ⟨hF, hO, Or.inr (Or.inr (Or.inr (Or.inr (Or.inr (Or.inr (Or.inr (Or.inr (Or.inr (Or.inr (Or.inr (Or.inr (Or.inr (Or.inr (Or.inl ⟨dkN_sub (dkN_lit (x := (-1000000)) (-1000000) rfl) rfl, (show dkN [(2, 90)] (I195 12 1) from dkN_sub (by rw [hF195 12 1 rfl]; exact (by rw [hF89 12 1 rfl]; exact f86)) rfl), (show dkN [(0, 89)] (I195 12 2) from dkN_sub (by rw [hF195 12 2 rfl]; exact (by rw [hF89 12 2 rfl]; exact (by rw [hF17 12 2 rfl]; exact f15))) rfl), (show dkN [(0, 90)] (I195 12 4) from dkN_sub f195_12_4 rfl), (show dkN [(2, 2)] (I195 12 5) from dkN_sub f195_12_5 rfl), q11, q37, q38, q43, q45, q49, q51, q53, q84, q151, q152, q157, q159, q161, q164, q166, q168, q171, q174, q177, q179, q187, q193, rfl, y196, y197, y198, trivial⟩))))))))))))))⟩, dkW_eq ht hW⟩, hS.F ht⟩) hS.2.2 dX2_number_110
                      ·
                        exact (dkN_nil (show dkN [] v176 from dkN_le2 1 (dkN_lit (x := 2) (2) rfl) dv176 (dkc_nle c178) rfl)).elim
                  ·
                    have q199 : (((I0 12 2) + 1) + 1).toInt + 1 ≤ (I0 12 1).toInt := by first | (rw [← xv169, ← xv167]; exact (dkc_nle c170)) | (subst xv169 xv167; exact (dkc_nle c170))
                    have d200 : dkN [(3, 90)] v169 := dkN_le2 1 dv167 dv169 (dkc_nle c170) rfl
                    have f201 : dkN [(3, 90)] (I0 12 1) := by rw [← ev169]; exact d200
                    have d202 : dkN [(2, 89)] v167 := dkN_le1 1 dv167 dv169 (dkc_nle c170) rfl
                    refine lv_aload_n hx hb dX2_number_17 rfl (lv_at hl 2 rfl) ?_
                    refine dk_get (k := 12) hx hb hts iX2_number_2 hown hK (dk_at12 hW) rfl 0 (by decide) (hts (.fieldLink RX2 11 "DogKings$Reader" "tape" "[I") (List.mem_of_getElem? (i := 3) rfl)) rfl dX2_number_18 ?_
                    refine lv_iload hx hb dX2_number_21 (lv_at hl 0 rfl) ?_
                    refine dk_ild (k := 13) hx hb hK (dk_at13 hW) (dkN_in (n := 90) d202 rfl) dX2_number_23 ?_
                    refine lv_topi (fun v203 ev203 => ?_)
                    have dv203 : dkN [(0, 255)] v203 := by rw [ev203]; exact (hO 13 _)
                    have xv203 : v203 = I0 13 (Int32.toNatClampNeg (((I0 12 2) + 1) + 1)) := ev203.trans (by rw [xv167])
                    refine dk_Si (As := [.int v203]) (rest := []) ⟨hx, hb, hml, hown, hts⟩ (fx_X2_isFigure_1 l g z I0 v203 dv203 hO) (va_cwS 1 hts gX2_number_X2_isFigure rfl rfl rfl (by decide +kernel) ⟨Nat.le_of_ble_eq_true rfl, Nat.le_of_ble_eq_true rfl⟩) hK hT hW hS rfl hl.1 rfl (Nat.le_of_ble_eq_true rfl) dX2_number_24 ⟨Nat.zero_le _, Nat.zero_le _⟩ (fun v204 I204 H204 L204 hp204 hW hS => ?_)
                    obtain ⟨hF204, hO, hc204⟩ := hp204
                    have hF := dkF_call hF hF204 rfl
                    have eI204 : I0 = I204 := (dkF_nil hF204).symm
                    subst eI204
                    rcases hc204 with ⟨dv204, a204_0, x204_0, xr204, -⟩ | hc204
                    ·
                      have q205 : (I0 13 (Int32.toNatClampNeg (((I0 12 2) + 1) + 1))).toInt + 1 ≤ (48 : Int) := by have h := x204_0; rw [xv203] at h; exact h
                      have xv204 : v204 = 0 := by have h := xr204; exact h
                      have d206 : dkN [(0, 47)] v203 := dkN_eq1 dv203 a204_0 rfl rfl
                      refine lv_if_eq (tgt := 63) hx hb dX2_number_27 (by decide) (fun c207 => ?_) (fun c207 => ?_)
                      ·
                        refine lv_iload hx hb dX2_number_63 (lv_at hl 0 rfl) ?_
                        refine lv_aload_n hx hb dX2_number_65 rfl (lv_at hl 2 rfl) ?_
                        refine dk_get (k := 12) hx hb hts iX2_number_2 hown hK (dk_at12 hW) rfl 2 (by decide) (hts (.fieldLink RX2 30 "DogKings$Reader" "at" "I") (List.mem_of_getElem? (i := 1) rfl)) rfl dX2_number_66 ?_
                        refine lv_topi (fun v208 ev208 => ?_)
                        have dv208 : dkN [(0, 89)] v208 := by rw [ev208]; exact (by rw [hF204 12 2 rfl]; exact (by rw [hF89 12 2 rfl]; exact (by rw [hF17 12 2 rfl]; exact f15)))
                        have xv208 : v208 = I0 12 2 := ev208.trans rfl
                        refine lv_icmp_eq (tgt := 83) hx hb dX2_number_69 (by decide) (fun c209 => ?_) (fun c209 => ?_)
                        ·
                          exact absurd (congrArg Int32.toInt c209) (by have h0 : v208.toInt = v1.toInt := congrArg Int32.toInt (xv208.trans xv1.symm); have h1 : v167.toInt = v52.toInt + 1 := (by rw [ev167]; exact dk_inc d87 rfl); have h2 : v52.toInt = v1.toInt + 1 := (by rw [ev52]; exact dk_inc d14 rfl); omega)
                        ·
                          have q210 : (((I0 12 2) + 1) + 1).toInt ≠ (I0 12 2).toInt := by first | (rw [← xv167, ← xv208]; exact (dk_ne c209)) | (subst xv167 xv208; exact (dk_ne c209))
                          refine lv_iload hx hb dX2_number_72 (lv_at hl 0 rfl) ?_
                          refine lv_aload_n hx hb dX2_number_74 rfl (lv_at hl 2 rfl) ?_
                          refine dk_get (k := 12) hx hb hts iX2_number_2 hown hK (dk_at12 hW) rfl 2 (by decide) (hts (.fieldLink RX2 30 "DogKings$Reader" "at" "I") (List.mem_of_getElem? (i := 1) rfl)) rfl dX2_number_75 ?_
                          refine lv_topi (fun v211 ev211 => ?_)
                          have dv211 : dkN [(0, 89)] v211 := by rw [ev211]; exact (by rw [hF204 12 2 rfl]; exact (by rw [hF89 12 2 rfl]; exact (by rw [hF17 12 2 rfl]; exact f15)))
                          have xv211 : v211 = I0 12 2 := ev211.trans rfl
                          refine lv_isub hx hb dX2_number_78 ?_
                          refine lv_topi (fun v212 ev212 => ?_)
                          have dv212 : dkN [(2, 2)] v212 := by rw [ev212]; exact dkN_lit (2) (by have h0 : v211.toInt = v1.toInt := congrArg Int32.toInt (xv211.trans xv1.symm); have h9 := dk_subE (x := v167) (y := v211) d202 dv211 rfl; have h1 : v167.toInt = v52.toInt + 1 := (by rw [ev167]; exact dk_inc d87 rfl); have h2 : v52.toInt = v1.toInt + 1 := (by rw [ev52]; exact dk_inc d14 rfl); omega)
                          have xv212 : v212 = (((I0 12 2) + 1) + 1) - (I0 12 2) := by rw [ev212, xv167, xv211]
                          have q213 : ((((I0 12 2) + 1) + 1) - (I0 12 2)).toInt = (((I0 12 2) + 1) + 1).toInt - (I0 12 2).toInt := by first | (rw [← xv212, ← xv167, ← xv211]; exact (by rw [ev212]; exact dk_subE d202 dv211 rfl)) | (subst xv212 xv167 xv211; exact (by rw [ev212]; exact dk_subE d202 dv211 rfl))
                          refine lv_iconst (v := 2) hx hb dX2_number_79 (by decide) ?_
                          refine lv_icmp_le (tgt := 92) hx hb dX2_number_80 (by decide) (fun c214 => ?_) (fun c214 => ?_)
                          ·
                            have q215 : ((((I0 12 2) + 1) + 1) - (I0 12 2)).toInt + 0 ≤ (2 : Int) := by first | (rw [← xv212]; exact (dkc_le c214)) | (subst xv212; exact (dkc_le c214))
                            refine lv_iload_n hx hb dX2_number_92 rfl (lv_at hl 1 rfl) ?_
                            refine lv_iload_n hx hb dX2_number_93 rfl (lv_at hl 3 rfl) ?_
                            refine lv_icmp_lt (tgt := 102) hx hb dX2_number_94 (by decide) (fun c216 => ?_) (fun c216 => ?_)
                            ·
                              have q217 : ((((10 : Int32) * (((0 : Int32) + (I0 13 (Int32.toNatClampNeg (I0 12 2)))) - (48 : Int32))) + (I0 13 (Int32.toNatClampNeg ((I0 12 2) + 1)))) - (48 : Int32)).toInt + 1 ≤ p0.toInt := by first | (rw [← xv165]; exact (dkc_lt c216)) | (subst xv165; exact (dkc_lt c216))
                              have d218 : dkN [(-528, 2)] v165 := dkN_le1 1 dv165 dp0 (dkc_lt c216) rfl
                              refine lv_aload_n hx hb dX2_number_102 rfl (lv_at hl 2 rfl) ?_
                              refine lv_iconst (v := 2) hx hb dX2_number_103 (by decide) ?_
                              refine dk_Vi (As := [.int 2]) (rest := []) ⟨hx, hb, hml, hown, hts⟩ (fx_X2_meets_4 l g z I0 2 (dkN_lit (x := 2) (2) rfl) hO) (cwV 1 hts gX2_number_X2_meets rfl rfl rfl (by decide +kernel) ⟨Nat.le_of_ble_eq_true rfl, Nat.le_of_ble_eq_true rfl⟩) (dk_at12 hW) rfl hK hT hW hS rfl hl.1 rfl (Nat.le_of_ble_eq_true rfl) dX2_number_104 ⟨Nat.zero_le _, Nat.zero_le _⟩ (fun v219 I219 H219 L219 hp219 hW hS => ?_)
                              obtain ⟨hF219, hO, hc219⟩ := hp219
                              have hF := dkF_call hF hF219 rfl
                              obtain ⟨dv219, f219_12_4, f219_12_5, xr219, xh219_0, xh219_1, xh219_2, -⟩ := hc219
                              have y220 : I219 12 2 = I0 12 2 := by have h := xh219_0; exact h
                              have y221 : I219 12 4 = I0 12 2 := by have h := xh219_1; exact h
                              have y222 : I219 12 5 = 2 := by have h := xh219_2; exact h
                              have xv219 : v219 = 0 := by have h := xr219; exact h
                              refine lv_pop hx hb dX2_number_107 rfl ?_
                              refine lv_ldc (v := (-1000000)) hx hb hown (hts (.constant RX2 50 (-1000000)) (List.mem_of_getElem? (i := 4) rfl)) dX2_number_108 ?_
                              exact W.iret (v := (-1000000)) hx hb hr (fun t ht hW9 => ⟨⟨(-1000000), I219, rfl, ⟨hF, hO, Or.inr (Or.inr (Or.inr (Or.inr (Or.inr (Or.inr (Or.inr (Or.inr (Or.inr (Or.inr (Or.inr (Or.inr (Or.inr (Or.inr (Or.inr (Or.inl ⟨dkN_sub (dkN_lit (x := (-1000000)) (-1000000) rfl) rfl, (show dkN [(3, 90)] (I219 12 1) from dkN_sub (by rw [hF219 12 1 rfl]; exact (by rw [hF204 12 1 rfl]; exact f201)) rfl), (show dkN [(0, 89)] (I219 12 2) from dkN_sub (by rw [hF219 12 2 rfl]; exact (by rw [hF204 12 2 rfl]; exact (by rw [hF89 12 2 rfl]; exact (by rw [hF17 12 2 rfl]; exact f15)))) rfl), (show dkN [(0, 90)] (I219 12 4) from dkN_sub f219_12_4 rfl), (show dkN [(2, 2)] (I219 12 5) from dkN_sub f219_12_5 rfl), q11, q37, q38, q43, q45, q49, q51, q53, q84, q151, q152, q157, q159, q161, q164, q166, q168, q199, q205, q210, q213, q215, q217, rfl, y220, y221, y222, trivial⟩)))))))))))))))⟩, dkW_eq ht hW⟩, hS.F ht⟩) hS.2.2 dX2_number_110
                            ·
                              have q223 : p0.toInt + 0 ≤ ((((10 : Int32) * (((0 : Int32) + (I0 13 (Int32.toNatClampNeg (I0 12 2)))) - (48 : Int32))) + (I0 13 (Int32.toNatClampNeg ((I0 12 2) + 1)))) - (48 : Int32)).toInt := by first | (rw [← xv165]; exact (dkc_nlt c216)) | (subst xv165; exact (dkc_nlt c216))
                              have d224 : dkN [(3, 2277)] v165 := dkN_le2 0 dp0 dv165 (dkc_nlt c216) rfl
                              refine lv_iload_n hx hb dX2_number_97 rfl (lv_at hl 1 rfl) ?_
                              refine lv_iload_n hx hb dX2_number_98 rfl (lv_at hl 4 rfl) ?_
                              refine lv_icmp_le (tgt := 111) hx hb dX2_number_99 (by decide) (fun c225 => ?_) (fun c225 => ?_)
                              ·
                                have q226 : ((((10 : Int32) * (((0 : Int32) + (I0 13 (Int32.toNatClampNeg (I0 12 2)))) - (48 : Int32))) + (I0 13 (Int32.toNatClampNeg ((I0 12 2) + 1)))) - (48 : Int32)).toInt + 0 ≤ p1.toInt := by first | (rw [← xv165]; exact (dkc_le c225)) | (subst xv165; exact (dkc_le c225))
                                have d227 : dkN [(3, 9)] v165 := dkN_le1 0 d224 dp1 (dkc_le c225) rfl
                                refine lv_aload_n hx hb dX2_number_111 rfl (lv_at hl 2 rfl) ?_
                                refine lv_iload hx hb dX2_number_112 (lv_at hl 0 rfl) ?_
                                refine dk_put (k := 12) hx hb hts iX2_number_2 tyX2 tyX2_ok nmX2 hown hK hW (dk_at12 hW) hS rfl 2 (by decide) (hts (.fieldLink RX2 30 "DogKings$Reader" "at" "I") (List.mem_of_getElem? (i := 1) rfl)) rfl rfl (Nat.le_of_ble_eq_true rfl) rfl dX2_number_114 (fun I228 H228 L228 eI228 hW hS => ?_)
                                have eI228 : I228 = dkU I0 12 2 v167 := eI228
                                have hO := dkO_set hO eI228 (dkN_sub d202 rfl)
                                have hF := dkF_set hF eI228 rfl
                                refine lv_iload_n hx hb dX2_number_117 rfl (lv_at hl 1 rfl) ?_
                                exact W.iret (v := v165) hx hb hr (fun t ht hW9 => ⟨⟨v165, I228, rfl, ⟨hF, hO, Or.inr (Or.inr (Or.inr (Or.inr (Or.inr (Or.inr (Or.inr (Or.inr (Or.inr (Or.inr (Or.inr (Or.inr (Or.inr (Or.inr (Or.inr (Or.inr (Or.inl ⟨dkN_sub d227 rfl, (show dkN [(3, 90)] (I228 12 1) from dkN_sub (by rw [eI228, dkU_sn (by decide)]; exact (by rw [hF204 12 1 rfl]; exact f201)) rfl), (show dkN [(2, 89)] (I228 12 2) from dkN_sub (by rw [eI228, dkU_ss]; exact d202) rfl), q11, q37, q38, q43, q45, q49, q51, q53, q84, q151, q152, q157, q159, q161, q164, q166, q168, q199, q205, q210, q213, q215, q223, q226, xv165, (by rw [eI228, dkU_ss, xv167]), ((by rw [eI228, dkU_sn (by decide)] : I228 12 4 = _).trans rfl), ((by rw [eI228, dkU_sn (by decide)] : I228 12 5 = _).trans rfl), trivial⟩))))))))))))))))⟩, dkW_eq ht hW⟩, hS.F ht⟩) hS.2.2 dX2_number_118
                              ·
                                have q229 : p1.toInt + 1 ≤ ((((10 : Int32) * (((0 : Int32) + (I0 13 (Int32.toNatClampNeg (I0 12 2)))) - (48 : Int32))) + (I0 13 (Int32.toNatClampNeg ((I0 12 2) + 1)))) - (48 : Int32)).toInt := by first | (rw [← xv165]; exact (dkc_nle c225)) | (subst xv165; exact (dkc_nle c225))
                                have d230 : dkN [(10, 2277)] v165 := dkN_le2 1 dp1 d224 (dkc_nle c225) rfl
                                refine lv_aload_n hx hb dX2_number_102 rfl (lv_at hl 2 rfl) ?_
                                refine lv_iconst (v := 2) hx hb dX2_number_103 (by decide) ?_
                                refine dk_Vi (As := [.int 2]) (rest := []) ⟨hx, hb, hml, hown, hts⟩ (fx_X2_meets_4 l g z I0 2 (dkN_lit (x := 2) (2) rfl) hO) (cwV 1 hts gX2_number_X2_meets rfl rfl rfl (by decide +kernel) ⟨Nat.le_of_ble_eq_true rfl, Nat.le_of_ble_eq_true rfl⟩) (dk_at12 hW) rfl hK hT hW hS rfl hl.1 rfl (Nat.le_of_ble_eq_true rfl) dX2_number_104 ⟨Nat.zero_le _, Nat.zero_le _⟩ (fun v231 I231 H231 L231 hp231 hW hS => ?_)
                                obtain ⟨hF231, hO, hc231⟩ := hp231
                                have hF := dkF_call hF hF231 rfl
                                obtain ⟨dv231, f231_12_4, f231_12_5, xr231, xh231_0, xh231_1, xh231_2, -⟩ := hc231
                                have y232 : I231 12 2 = I0 12 2 := by have h := xh231_0; exact h
                                have y233 : I231 12 4 = I0 12 2 := by have h := xh231_1; exact h
                                have y234 : I231 12 5 = 2 := by have h := xh231_2; exact h
                                have xv231 : v231 = 0 := by have h := xr231; exact h
                                refine lv_pop hx hb dX2_number_107 rfl ?_
                                refine lv_ldc (v := (-1000000)) hx hb hown (hts (.constant RX2 50 (-1000000)) (List.mem_of_getElem? (i := 4) rfl)) dX2_number_108 ?_
                                exact W.iret (v := (-1000000)) hx hb hr (fun t ht hW9 => ⟨⟨(-1000000), I231, rfl, ⟨hF, hO, Or.inr (Or.inr (Or.inr (Or.inr (Or.inr (Or.inr (Or.inr (Or.inr (Or.inr (Or.inr (Or.inr (Or.inr (Or.inr (Or.inr (Or.inr (Or.inr (Or.inr (Or.inl ⟨dkN_sub (dkN_lit (x := (-1000000)) (-1000000) rfl) rfl, (show dkN [(3, 90)] (I231 12 1) from dkN_sub (by rw [hF231 12 1 rfl]; exact (by rw [hF204 12 1 rfl]; exact f201)) rfl), (show dkN [(0, 89)] (I231 12 2) from dkN_sub (by rw [hF231 12 2 rfl]; exact (by rw [hF204 12 2 rfl]; exact (by rw [hF89 12 2 rfl]; exact (by rw [hF17 12 2 rfl]; exact f15)))) rfl), (show dkN [(0, 90)] (I231 12 4) from dkN_sub f231_12_4 rfl), (show dkN [(2, 2)] (I231 12 5) from dkN_sub f231_12_5 rfl), q11, q37, q38, q43, q45, q49, q51, q53, q84, q151, q152, q157, q159, q161, q164, q166, q168, q199, q205, q210, q213, q215, q223, q229, rfl, y232, y233, y234, trivial⟩)))))))))))))))))⟩, dkW_eq ht hW⟩, hS.F ht⟩) hS.2.2 dX2_number_110
                          ·
                            exact (dkN_nil (show dkN [] v212 from dkN_le2 1 (dkN_lit (x := 2) (2) rfl) dv212 (dkc_nle c214) rfl)).elim
                      ·
                        exact absurd ((xv204).trans (rfl).symm) c207
                    rcases hc204 with ⟨dv204, a204_0, x204_0, x204_1, xr204, -⟩ | hc204
                    ·
                      have q235 : (48 : Int) + 0 ≤ (I0 13 (Int32.toNatClampNeg (((I0 12 2) + 1) + 1))).toInt := by have h := x204_0; rw [xv203] at h; exact h
                      have q236 : (57 : Int) + 1 ≤ (I0 13 (Int32.toNatClampNeg (((I0 12 2) + 1) + 1))).toInt := by have h := x204_1; rw [xv203] at h; exact h
                      have xv204 : v204 = 0 := by have h := xr204; exact h
                      have d237 : dkN [(58, 255)] v203 := dkN_eq1 dv203 a204_0 rfl rfl
                      refine lv_if_eq (tgt := 63) hx hb dX2_number_27 (by decide) (fun c238 => ?_) (fun c238 => ?_)
                      ·
                        refine lv_iload hx hb dX2_number_63 (lv_at hl 0 rfl) ?_
                        refine lv_aload_n hx hb dX2_number_65 rfl (lv_at hl 2 rfl) ?_
                        refine dk_get (k := 12) hx hb hts iX2_number_2 hown hK (dk_at12 hW) rfl 2 (by decide) (hts (.fieldLink RX2 30 "DogKings$Reader" "at" "I") (List.mem_of_getElem? (i := 1) rfl)) rfl dX2_number_66 ?_
                        refine lv_topi (fun v239 ev239 => ?_)
                        have dv239 : dkN [(0, 89)] v239 := by rw [ev239]; exact (by rw [hF204 12 2 rfl]; exact (by rw [hF89 12 2 rfl]; exact (by rw [hF17 12 2 rfl]; exact f15)))
                        have xv239 : v239 = I0 12 2 := ev239.trans rfl
                        refine lv_icmp_eq (tgt := 83) hx hb dX2_number_69 (by decide) (fun c240 => ?_) (fun c240 => ?_)
                        ·
                          exact absurd (congrArg Int32.toInt c240) (by have h0 : v239.toInt = v1.toInt := congrArg Int32.toInt (xv239.trans xv1.symm); have h1 : v167.toInt = v52.toInt + 1 := (by rw [ev167]; exact dk_inc d87 rfl); have h2 : v52.toInt = v1.toInt + 1 := (by rw [ev52]; exact dk_inc d14 rfl); omega)
                        ·
                          have q241 : (((I0 12 2) + 1) + 1).toInt ≠ (I0 12 2).toInt := by first | (rw [← xv167, ← xv239]; exact (dk_ne c240)) | (subst xv167 xv239; exact (dk_ne c240))
                          refine lv_iload hx hb dX2_number_72 (lv_at hl 0 rfl) ?_
                          refine lv_aload_n hx hb dX2_number_74 rfl (lv_at hl 2 rfl) ?_
                          refine dk_get (k := 12) hx hb hts iX2_number_2 hown hK (dk_at12 hW) rfl 2 (by decide) (hts (.fieldLink RX2 30 "DogKings$Reader" "at" "I") (List.mem_of_getElem? (i := 1) rfl)) rfl dX2_number_75 ?_
                          refine lv_topi (fun v242 ev242 => ?_)
                          have dv242 : dkN [(0, 89)] v242 := by rw [ev242]; exact (by rw [hF204 12 2 rfl]; exact (by rw [hF89 12 2 rfl]; exact (by rw [hF17 12 2 rfl]; exact f15)))
                          have xv242 : v242 = I0 12 2 := ev242.trans rfl
                          refine lv_isub hx hb dX2_number_78 ?_
                          refine lv_topi (fun v243 ev243 => ?_)
                          have dv243 : dkN [(2, 2)] v243 := by rw [ev243]; exact dkN_lit (2) (by have h0 : v242.toInt = v1.toInt := congrArg Int32.toInt (xv242.trans xv1.symm); have h9 := dk_subE (x := v167) (y := v242) d202 dv242 rfl; have h1 : v167.toInt = v52.toInt + 1 := (by rw [ev167]; exact dk_inc d87 rfl); have h2 : v52.toInt = v1.toInt + 1 := (by rw [ev52]; exact dk_inc d14 rfl); omega)
                          have xv243 : v243 = (((I0 12 2) + 1) + 1) - (I0 12 2) := by rw [ev243, xv167, xv242]
                          have q244 : ((((I0 12 2) + 1) + 1) - (I0 12 2)).toInt = (((I0 12 2) + 1) + 1).toInt - (I0 12 2).toInt := by first | (rw [← xv243, ← xv167, ← xv242]; exact (by rw [ev243]; exact dk_subE d202 dv242 rfl)) | (subst xv243 xv167 xv242; exact (by rw [ev243]; exact dk_subE d202 dv242 rfl))
                          refine lv_iconst (v := 2) hx hb dX2_number_79 (by decide) ?_
                          refine lv_icmp_le (tgt := 92) hx hb dX2_number_80 (by decide) (fun c245 => ?_) (fun c245 => ?_)
                          ·
                            have q246 : ((((I0 12 2) + 1) + 1) - (I0 12 2)).toInt + 0 ≤ (2 : Int) := by first | (rw [← xv243]; exact (dkc_le c245)) | (subst xv243; exact (dkc_le c245))
                            refine lv_iload_n hx hb dX2_number_92 rfl (lv_at hl 1 rfl) ?_
                            refine lv_iload_n hx hb dX2_number_93 rfl (lv_at hl 3 rfl) ?_
                            refine lv_icmp_lt (tgt := 102) hx hb dX2_number_94 (by decide) (fun c247 => ?_) (fun c247 => ?_)
                            ·
                              have q248 : ((((10 : Int32) * (((0 : Int32) + (I0 13 (Int32.toNatClampNeg (I0 12 2)))) - (48 : Int32))) + (I0 13 (Int32.toNatClampNeg ((I0 12 2) + 1)))) - (48 : Int32)).toInt + 1 ≤ p0.toInt := by first | (rw [← xv165]; exact (dkc_lt c247)) | (subst xv165; exact (dkc_lt c247))
                              have d249 : dkN [(-528, 2)] v165 := dkN_le1 1 dv165 dp0 (dkc_lt c247) rfl
                              refine lv_aload_n hx hb dX2_number_102 rfl (lv_at hl 2 rfl) ?_
                              refine lv_iconst (v := 2) hx hb dX2_number_103 (by decide) ?_
                              refine dk_Vi (As := [.int 2]) (rest := []) ⟨hx, hb, hml, hown, hts⟩ (fx_X2_meets_4 l g z I0 2 (dkN_lit (x := 2) (2) rfl) hO) (cwV 1 hts gX2_number_X2_meets rfl rfl rfl (by decide +kernel) ⟨Nat.le_of_ble_eq_true rfl, Nat.le_of_ble_eq_true rfl⟩) (dk_at12 hW) rfl hK hT hW hS rfl hl.1 rfl (Nat.le_of_ble_eq_true rfl) dX2_number_104 ⟨Nat.zero_le _, Nat.zero_le _⟩ (fun v250 I250 H250 L250 hp250 hW hS => ?_)
                              obtain ⟨hF250, hO, hc250⟩ := hp250
                              have hF := dkF_call hF hF250 rfl
                              obtain ⟨dv250, f250_12_4, f250_12_5, xr250, xh250_0, xh250_1, xh250_2, -⟩ := hc250
                              have y251 : I250 12 2 = I0 12 2 := by have h := xh250_0; exact h
                              have y252 : I250 12 4 = I0 12 2 := by have h := xh250_1; exact h
                              have y253 : I250 12 5 = 2 := by have h := xh250_2; exact h
                              have xv250 : v250 = 0 := by have h := xr250; exact h
                              refine lv_pop hx hb dX2_number_107 rfl ?_
                              refine lv_ldc (v := (-1000000)) hx hb hown (hts (.constant RX2 50 (-1000000)) (List.mem_of_getElem? (i := 4) rfl)) dX2_number_108 ?_
                              exact W.iret (v := (-1000000)) hx hb hr (fun t ht hW9 => ⟨⟨(-1000000), I250, rfl, ⟨hF, hO, Or.inr (Or.inr (Or.inr (Or.inr (Or.inr (Or.inr (Or.inr (Or.inr (Or.inr (Or.inr (Or.inr (Or.inr (Or.inr (Or.inr (Or.inr (Or.inr (Or.inr (Or.inr (Or.inl ⟨dkN_sub (dkN_lit (x := (-1000000)) (-1000000) rfl) rfl, (show dkN [(3, 90)] (I250 12 1) from dkN_sub (by rw [hF250 12 1 rfl]; exact (by rw [hF204 12 1 rfl]; exact f201)) rfl), (show dkN [(0, 89)] (I250 12 2) from dkN_sub (by rw [hF250 12 2 rfl]; exact (by rw [hF204 12 2 rfl]; exact (by rw [hF89 12 2 rfl]; exact (by rw [hF17 12 2 rfl]; exact f15)))) rfl), (show dkN [(0, 90)] (I250 12 4) from dkN_sub f250_12_4 rfl), (show dkN [(2, 2)] (I250 12 5) from dkN_sub f250_12_5 rfl), q11, q37, q38, q43, q45, q49, q51, q53, q84, q151, q152, q157, q159, q161, q164, q166, q168, q199, q235, q236, q241, q244, q246, q248, rfl, y251, y252, y253, trivial⟩))))))))))))))))))⟩, dkW_eq ht hW⟩, hS.F ht⟩) hS.2.2 dX2_number_110
                            ·
                              have q254 : p0.toInt + 0 ≤ ((((10 : Int32) * (((0 : Int32) + (I0 13 (Int32.toNatClampNeg (I0 12 2)))) - (48 : Int32))) + (I0 13 (Int32.toNatClampNeg ((I0 12 2) + 1)))) - (48 : Int32)).toInt := by first | (rw [← xv165]; exact (dkc_nlt c247)) | (subst xv165; exact (dkc_nlt c247))
                              have d255 : dkN [(3, 2277)] v165 := dkN_le2 0 dp0 dv165 (dkc_nlt c247) rfl
                              refine lv_iload_n hx hb dX2_number_97 rfl (lv_at hl 1 rfl) ?_
                              refine lv_iload_n hx hb dX2_number_98 rfl (lv_at hl 4 rfl) ?_
                              refine lv_icmp_le (tgt := 111) hx hb dX2_number_99 (by decide) (fun c256 => ?_) (fun c256 => ?_)
                              ·
                                have q257 : ((((10 : Int32) * (((0 : Int32) + (I0 13 (Int32.toNatClampNeg (I0 12 2)))) - (48 : Int32))) + (I0 13 (Int32.toNatClampNeg ((I0 12 2) + 1)))) - (48 : Int32)).toInt + 0 ≤ p1.toInt := by first | (rw [← xv165]; exact (dkc_le c256)) | (subst xv165; exact (dkc_le c256))
                                have d258 : dkN [(3, 9)] v165 := dkN_le1 0 d255 dp1 (dkc_le c256) rfl
                                refine lv_aload_n hx hb dX2_number_111 rfl (lv_at hl 2 rfl) ?_
                                refine lv_iload hx hb dX2_number_112 (lv_at hl 0 rfl) ?_
                                refine dk_put (k := 12) hx hb hts iX2_number_2 tyX2 tyX2_ok nmX2 hown hK hW (dk_at12 hW) hS rfl 2 (by decide) (hts (.fieldLink RX2 30 "DogKings$Reader" "at" "I") (List.mem_of_getElem? (i := 1) rfl)) rfl rfl (Nat.le_of_ble_eq_true rfl) rfl dX2_number_114 (fun I259 H259 L259 eI259 hW hS => ?_)
                                have eI259 : I259 = dkU I0 12 2 v167 := eI259
                                have hO := dkO_set hO eI259 (dkN_sub d202 rfl)
                                have hF := dkF_set hF eI259 rfl
                                refine lv_iload_n hx hb dX2_number_117 rfl (lv_at hl 1 rfl) ?_
                                exact W.iret (v := v165) hx hb hr (fun t ht hW9 => ⟨⟨v165, I259, rfl, ⟨hF, hO, Or.inr (Or.inr (Or.inr (Or.inr (Or.inr (Or.inr (Or.inr (Or.inr (Or.inr (Or.inr (Or.inr (Or.inr (Or.inr (Or.inr (Or.inr (Or.inr (Or.inr (Or.inr (Or.inr (Or.inl ⟨dkN_sub d258 rfl, (show dkN [(3, 90)] (I259 12 1) from dkN_sub (by rw [eI259, dkU_sn (by decide)]; exact (by rw [hF204 12 1 rfl]; exact f201)) rfl), (show dkN [(2, 89)] (I259 12 2) from dkN_sub (by rw [eI259, dkU_ss]; exact d202) rfl), q11, q37, q38, q43, q45, q49, q51, q53, q84, q151, q152, q157, q159, q161, q164, q166, q168, q199, q235, q236, q241, q244, q246, q254, q257, xv165, (by rw [eI259, dkU_ss, xv167]), ((by rw [eI259, dkU_sn (by decide)] : I259 12 4 = _).trans rfl), ((by rw [eI259, dkU_sn (by decide)] : I259 12 5 = _).trans rfl), trivial⟩)))))))))))))))))))⟩, dkW_eq ht hW⟩, hS.F ht⟩) hS.2.2 dX2_number_118
                              ·
                                have q260 : p1.toInt + 1 ≤ ((((10 : Int32) * (((0 : Int32) + (I0 13 (Int32.toNatClampNeg (I0 12 2)))) - (48 : Int32))) + (I0 13 (Int32.toNatClampNeg ((I0 12 2) + 1)))) - (48 : Int32)).toInt := by first | (rw [← xv165]; exact (dkc_nle c256)) | (subst xv165; exact (dkc_nle c256))
                                have d261 : dkN [(10, 2277)] v165 := dkN_le2 1 dp1 d255 (dkc_nle c256) rfl
                                refine lv_aload_n hx hb dX2_number_102 rfl (lv_at hl 2 rfl) ?_
                                refine lv_iconst (v := 2) hx hb dX2_number_103 (by decide) ?_
                                refine dk_Vi (As := [.int 2]) (rest := []) ⟨hx, hb, hml, hown, hts⟩ (fx_X2_meets_4 l g z I0 2 (dkN_lit (x := 2) (2) rfl) hO) (cwV 1 hts gX2_number_X2_meets rfl rfl rfl (by decide +kernel) ⟨Nat.le_of_ble_eq_true rfl, Nat.le_of_ble_eq_true rfl⟩) (dk_at12 hW) rfl hK hT hW hS rfl hl.1 rfl (Nat.le_of_ble_eq_true rfl) dX2_number_104 ⟨Nat.zero_le _, Nat.zero_le _⟩ (fun v262 I262 H262 L262 hp262 hW hS => ?_)
                                obtain ⟨hF262, hO, hc262⟩ := hp262
                                have hF := dkF_call hF hF262 rfl
                                obtain ⟨dv262, f262_12_4, f262_12_5, xr262, xh262_0, xh262_1, xh262_2, -⟩ := hc262
                                have y263 : I262 12 2 = I0 12 2 := by have h := xh262_0; exact h
                                have y264 : I262 12 4 = I0 12 2 := by have h := xh262_1; exact h
                                have y265 : I262 12 5 = 2 := by have h := xh262_2; exact h
                                have xv262 : v262 = 0 := by have h := xr262; exact h
                                refine lv_pop hx hb dX2_number_107 rfl ?_
                                refine lv_ldc (v := (-1000000)) hx hb hown (hts (.constant RX2 50 (-1000000)) (List.mem_of_getElem? (i := 4) rfl)) dX2_number_108 ?_
                                exact W.iret (v := (-1000000)) hx hb hr (fun t ht hW9 => ⟨⟨(-1000000), I262, rfl, ⟨hF, hO, Or.inr (Or.inr (Or.inr (Or.inr (Or.inr (Or.inr (Or.inr (Or.inr (Or.inr (Or.inr (Or.inr (Or.inr (Or.inr (Or.inr (Or.inr (Or.inr (Or.inr (Or.inr (Or.inr (Or.inr (Or.inl ⟨dkN_sub (dkN_lit (x := (-1000000)) (-1000000) rfl) rfl, (show dkN [(3, 90)] (I262 12 1) from dkN_sub (by rw [hF262 12 1 rfl]; exact (by rw [hF204 12 1 rfl]; exact f201)) rfl), (show dkN [(0, 89)] (I262 12 2) from dkN_sub (by rw [hF262 12 2 rfl]; exact (by rw [hF204 12 2 rfl]; exact (by rw [hF89 12 2 rfl]; exact (by rw [hF17 12 2 rfl]; exact f15)))) rfl), (show dkN [(0, 90)] (I262 12 4) from dkN_sub f262_12_4 rfl), (show dkN [(2, 2)] (I262 12 5) from dkN_sub f262_12_5 rfl), q11, q37, q38, q43, q45, q49, q51, q53, q84, q151, q152, q157, q159, q161, q164, q166, q168, q199, q235, q236, q241, q244, q246, q254, q260, rfl, y263, y264, y265, trivial⟩))))))))))))))))))))⟩, dkW_eq ht hW⟩, hS.F ht⟩) hS.2.2 dX2_number_110
                          ·
                            exact (dkN_nil (show dkN [] v243 from dkN_le2 1 (dkN_lit (x := 2) (2) rfl) dv243 (dkc_nle c245) rfl)).elim
                      ·
                        exact absurd ((xv204).trans (rfl).symm) c238
                    ·
                      obtain ⟨dv204, a204_0, x204_0, x204_1, xr204, -⟩ := hc204
                      have q266 : (48 : Int) + 0 ≤ (I0 13 (Int32.toNatClampNeg (((I0 12 2) + 1) + 1))).toInt := by have h := x204_0; rw [xv203] at h; exact h
                      have q267 : (I0 13 (Int32.toNatClampNeg (((I0 12 2) + 1) + 1))).toInt + 0 ≤ (57 : Int) := by have h := x204_1; rw [xv203] at h; exact h
                      have xv204 : v204 = 1 := by have h := xr204; exact h
                      have d268 : dkN [(48, 57)] v203 := dkN_eq1 dv203 a204_0 rfl rfl
                      refine lv_if_eq (tgt := 63) hx hb dX2_number_27 (by decide) (fun c269 => ?_) (fun c269 => ?_)
                      ·
                        exact (dkN_nil (show dkN [] v204 from dkN_eq1 dv204 (dkN_lit (x := 0) (0) rfl) (congrArg Int32.toInt c269) rfl)).elim
                      ·
                        refine lv_iload hx hb dX2_number_30 (lv_at hl 0 rfl) ?_
                        refine lv_aload_n hx hb dX2_number_32 rfl (lv_at hl 2 rfl) ?_
                        refine dk_get (k := 12) hx hb hts iX2_number_2 hown hK (dk_at12 hW) rfl 2 (by decide) (hts (.fieldLink RX2 30 "DogKings$Reader" "at" "I") (List.mem_of_getElem? (i := 1) rfl)) rfl dX2_number_33 ?_
                        refine lv_topi (fun v270 ev270 => ?_)
                        have dv270 : dkN [(0, 89)] v270 := by rw [ev270]; exact (by rw [hF204 12 2 rfl]; exact (by rw [hF89 12 2 rfl]; exact (by rw [hF17 12 2 rfl]; exact f15)))
                        have xv270 : v270 = I0 12 2 := ev270.trans rfl
                        refine lv_isub hx hb dX2_number_36 ?_
                        refine lv_topi (fun v271 ev271 => ?_)
                        have dv271 : dkN [(2, 2)] v271 := by rw [ev271]; exact dkN_lit (2) (by have h0 : v270.toInt = v1.toInt := congrArg Int32.toInt (xv270.trans xv1.symm); have h9 := dk_subE (x := v167) (y := v270) d202 dv270 rfl; have h1 : v167.toInt = v52.toInt + 1 := (by rw [ev167]; exact dk_inc d87 rfl); have h2 : v52.toInt = v1.toInt + 1 := (by rw [ev52]; exact dk_inc d14 rfl); omega)
                        have xv271 : v271 = (((I0 12 2) + 1) + 1) - (I0 12 2) := by rw [ev271, xv167, xv270]
                        have q272 : ((((I0 12 2) + 1) + 1) - (I0 12 2)).toInt = (((I0 12 2) + 1) + 1).toInt - (I0 12 2).toInt := by first | (rw [← xv271, ← xv167, ← xv270]; exact (by rw [ev271]; exact dk_subE d202 dv270 rfl)) | (subst xv271 xv167 xv270; exact (by rw [ev271]; exact dk_subE d202 dv270 rfl))
                        refine lv_iconst (v := 3) hx hb dX2_number_37 (by decide) ?_
                        refine lv_icmp_ge (tgt := 63) hx hb dX2_number_38 (by decide) (fun c273 => ?_) (fun c273 => ?_)
                        ·
                          exact (dkN_nil (show dkN [] 3 from dkN_le1 0 (dkN_lit (x := 3) (3) rfl) dv271 (dkc_le c273) rfl)).elim
                        ·
                          have q274 : ((((I0 12 2) + 1) + 1) - (I0 12 2)).toInt + 1 ≤ (3 : Int) := by first | (rw [← xv271]; exact (dkc_nle c273)) | (subst xv271; exact (dkc_nle c273))
                          refine lv_bipush (v := 10) hx hb dX2_number_41 (by decide) ?_
                          refine lv_iload_n hx hb dX2_number_43 rfl (lv_at hl 1 rfl) ?_
                          refine lv_imul hx hb dX2_number_44 ?_
                          refine lv_topi (fun v275 ev275 => ?_)
                          have dv275 : dkN [(-5280, 22770)] v275 := by rw [ev275]; exact dkN_mulL 10 (by decide) (dkN_lit (x := 10) (10) rfl) dv165 rfl
                          have xv275 : v275 = (10 : Int32) * ((((10 : Int32) * (((0 : Int32) + (I0 13 (Int32.toNatClampNeg (I0 12 2)))) - (48 : Int32))) + (I0 13 (Int32.toNatClampNeg ((I0 12 2) + 1)))) - (48 : Int32)) := by rw [ev275, xv165]
                          have q276 : ((10 : Int32) * ((((10 : Int32) * (((0 : Int32) + (I0 13 (Int32.toNatClampNeg (I0 12 2)))) - (48 : Int32))) + (I0 13 (Int32.toNatClampNeg ((I0 12 2) + 1)))) - (48 : Int32))).toInt = (10 : Int) * ((((10 : Int32) * (((0 : Int32) + (I0 13 (Int32.toNatClampNeg (I0 12 2)))) - (48 : Int32))) + (I0 13 (Int32.toNatClampNeg ((I0 12 2) + 1)))) - (48 : Int32)).toInt := by first | (rw [← xv275, ← xv165]; exact (by rw [ev275]; exact dk_mulE 10 (x := 10) rfl dv165 (by decide) rfl)) | (subst xv275 xv165; exact (by rw [ev275]; exact dk_mulE 10 (x := 10) rfl dv165 (by decide) rfl))
                          refine lv_aload_n hx hb dX2_number_45 rfl (lv_at hl 2 rfl) ?_
                          refine dk_get (k := 12) hx hb hts iX2_number_2 hown hK (dk_at12 hW) rfl 0 (by decide) (hts (.fieldLink RX2 11 "DogKings$Reader" "tape" "[I") (List.mem_of_getElem? (i := 3) rfl)) rfl dX2_number_46 ?_
                          refine lv_iload hx hb dX2_number_49 (lv_at hl 0 rfl) ?_
                          refine dk_ild (k := 13) hx hb hK (dk_at13 hW) (dkN_in (n := 90) d202 rfl) dX2_number_51 ?_
                          refine lv_topi (fun v277 ev277 => ?_)
                          have dv277 : dkN [(0, 255)] v277 := by rw [ev277]; exact (hO 13 _)
                          have xv277 : v277 = I0 13 (Int32.toNatClampNeg (((I0 12 2) + 1) + 1)) := ev277.trans (by rw [xv167])
                          refine lv_iadd hx hb dX2_number_52 ?_
                          refine lv_topi (fun v278 ev278 => ?_)
                          have dv278 : dkN [(-5280, 23025)] v278 := by rw [ev278]; exact dkN_add dv275 dv277 rfl
                          have xv278 : v278 = ((10 : Int32) * ((((10 : Int32) * (((0 : Int32) + (I0 13 (Int32.toNatClampNeg (I0 12 2)))) - (48 : Int32))) + (I0 13 (Int32.toNatClampNeg ((I0 12 2) + 1)))) - (48 : Int32))) + (I0 13 (Int32.toNatClampNeg (((I0 12 2) + 1) + 1))) := by rw [ev278, xv275, xv277]
                          have q279 : (((10 : Int32) * ((((10 : Int32) * (((0 : Int32) + (I0 13 (Int32.toNatClampNeg (I0 12 2)))) - (48 : Int32))) + (I0 13 (Int32.toNatClampNeg ((I0 12 2) + 1)))) - (48 : Int32))) + (I0 13 (Int32.toNatClampNeg (((I0 12 2) + 1) + 1)))).toInt = ((10 : Int32) * ((((10 : Int32) * (((0 : Int32) + (I0 13 (Int32.toNatClampNeg (I0 12 2)))) - (48 : Int32))) + (I0 13 (Int32.toNatClampNeg ((I0 12 2) + 1)))) - (48 : Int32))).toInt + (I0 13 (Int32.toNatClampNeg (((I0 12 2) + 1) + 1))).toInt := by first | (rw [← xv278, ← xv275, ← xv277]; exact (by rw [ev278]; exact dk_addE dv275 dv277 rfl)) | (subst xv278 xv275 xv277; exact (by rw [ev278]; exact dk_addE dv275 dv277 rfl))
                          refine lv_bipush (v := 48) hx hb dX2_number_53 (by decide) ?_
                          refine lv_isub hx hb dX2_number_55 ?_
                          refine lv_topi (fun v280 ev280 => ?_)
                          have dv280 : dkN [(-5328, 22977)] v280 := by rw [ev280]; exact dkN_subt dv278 (dkN_lit (x := 48) (48) rfl) rfl
                          have xv280 : v280 = (((10 : Int32) * ((((10 : Int32) * (((0 : Int32) + (I0 13 (Int32.toNatClampNeg (I0 12 2)))) - (48 : Int32))) + (I0 13 (Int32.toNatClampNeg ((I0 12 2) + 1)))) - (48 : Int32))) + (I0 13 (Int32.toNatClampNeg (((I0 12 2) + 1) + 1)))) - (48 : Int32) := by rw [ev280, xv278]
                          have q281 : ((((10 : Int32) * ((((10 : Int32) * (((0 : Int32) + (I0 13 (Int32.toNatClampNeg (I0 12 2)))) - (48 : Int32))) + (I0 13 (Int32.toNatClampNeg ((I0 12 2) + 1)))) - (48 : Int32))) + (I0 13 (Int32.toNatClampNeg (((I0 12 2) + 1) + 1)))) - (48 : Int32)).toInt = (((10 : Int32) * ((((10 : Int32) * (((0 : Int32) + (I0 13 (Int32.toNatClampNeg (I0 12 2)))) - (48 : Int32))) + (I0 13 (Int32.toNatClampNeg ((I0 12 2) + 1)))) - (48 : Int32))) + (I0 13 (Int32.toNatClampNeg (((I0 12 2) + 1) + 1)))).toInt - (48 : Int) := by first | (rw [← xv280, ← xv278]; exact (by rw [ev280]; exact dk_subE dv278 (dkN_lit (x := 48) (48) rfl) rfl)) | (subst xv280 xv278; exact (by rw [ev280]; exact dk_subE dv278 (dkN_lit (x := 48) (48) rfl) rfl))
                          refine lv_istore_n (lv' := [(3, .int v280), (4, .int v167), (0, .ref (z + 12)), (1, .int p0), (2, .int p1)]) hx hb dX2_number_56 rfl hl (by decide) rfl (fun ls hl => ?_)
                          obtain ⟨v282, ev282⟩ : ∃ y : Int32, y = v167 + 1 := ⟨_, rfl⟩
                          have dv282 : dkN [(3, 90)] v282 := by rw [ev282]; exact dkN_add d202 (dkN_lit (x := 1) (1) rfl) rfl
                          have xv282 : v282 = (((I0 12 2) + 1) + 1) + 1 := by rw [ev282, xv167]
                          have q283 : ((((I0 12 2) + 1) + 1) + 1).toInt = (((I0 12 2) + 1) + 1).toInt + (1 : Int) := by first | (rw [← xv282, ← xv167]; exact (by rw [ev282]; exact dk_addE d202 (dkN_lit (x := 1) (1) rfl) rfl)) | (subst xv282 xv167; exact (by rw [ev282]; exact dk_addE d202 (dkN_lit (x := 1) (1) rfl) rfl))
                          refine lv_iinc (v := v282) (lv' := [(4, .int v282), (3, .int v280), (0, .ref (z + 12)), (1, .int p0), (2, .int p1)]) hx hb dX2_number_57 hl (k := 1) rfl (by rw [ev282]; rfl) (by decide) rfl (fun ls hl => ?_)
                          refine lv_goto (tgt := 8) hx hb dX2_number_60 (by decide) ?_
                          refine lv_iload hx hb dX2_number_8 (lv_at hl 0 rfl) ?_
                          refine lv_aload_n hx hb dX2_number_10 rfl (lv_at hl 2 rfl) ?_
                          refine dk_get (k := 12) hx hb hts iX2_number_2 hown hK (dk_at12 hW) rfl 1 (by decide) (hts (.fieldLink RX2 22 "DogKings$Reader" "bytes" "I") (List.mem_of_getElem? (i := 2) rfl)) rfl dX2_number_11 ?_
                          refine lv_topi (fun v284 ev284 => ?_)
                          have dv284 : dkN [(3, 90)] v284 := by rw [ev284]; exact (by rw [hF204 12 1 rfl]; exact f201)
                          have xv284 : v284 = I0 12 1 := ev284.trans rfl
                          refine lv_icmp_ge (tgt := 63) hx hb dX2_number_14 (by decide) (fun c285 => ?_) (fun c285 => ?_)
                          ·
                            have q286 : (I0 12 1).toInt + 0 ≤ ((((I0 12 2) + 1) + 1) + 1).toInt := by first | (rw [← xv284, ← xv282]; exact (dkc_le c285)) | (subst xv284 xv282; exact (dkc_le c285))
                            refine lv_iload hx hb dX2_number_63 (lv_at hl 0 rfl) ?_
                            refine lv_aload_n hx hb dX2_number_65 rfl (lv_at hl 2 rfl) ?_
                            refine dk_get (k := 12) hx hb hts iX2_number_2 hown hK (dk_at12 hW) rfl 2 (by decide) (hts (.fieldLink RX2 30 "DogKings$Reader" "at" "I") (List.mem_of_getElem? (i := 1) rfl)) rfl dX2_number_66 ?_
                            refine lv_topi (fun v287 ev287 => ?_)
                            have dv287 : dkN [(0, 89)] v287 := by rw [ev287]; exact (by rw [hF204 12 2 rfl]; exact (by rw [hF89 12 2 rfl]; exact (by rw [hF17 12 2 rfl]; exact f15)))
                            have xv287 : v287 = I0 12 2 := ev287.trans rfl
                            refine lv_icmp_eq (tgt := 83) hx hb dX2_number_69 (by decide) (fun c288 => ?_) (fun c288 => ?_)
                            ·
                              exact absurd (congrArg Int32.toInt c288) (by have h0 : v287.toInt = v1.toInt := congrArg Int32.toInt (xv287.trans xv1.symm); have h1 : v282.toInt = v167.toInt + 1 := (by rw [ev282]; exact dk_inc d202 rfl); have h2 : v167.toInt = v52.toInt + 1 := (by rw [ev167]; exact dk_inc d87 rfl); have h3 : v52.toInt = v1.toInt + 1 := (by rw [ev52]; exact dk_inc d14 rfl); omega)
                            ·
                              have q289 : ((((I0 12 2) + 1) + 1) + 1).toInt ≠ (I0 12 2).toInt := by first | (rw [← xv282, ← xv287]; exact (dk_ne c288)) | (subst xv282 xv287; exact (dk_ne c288))
                              refine lv_iload hx hb dX2_number_72 (lv_at hl 0 rfl) ?_
                              refine lv_aload_n hx hb dX2_number_74 rfl (lv_at hl 2 rfl) ?_
                              refine dk_get (k := 12) hx hb hts iX2_number_2 hown hK (dk_at12 hW) rfl 2 (by decide) (hts (.fieldLink RX2 30 "DogKings$Reader" "at" "I") (List.mem_of_getElem? (i := 1) rfl)) rfl dX2_number_75 ?_
                              refine lv_topi (fun v290 ev290 => ?_)
                              have dv290 : dkN [(0, 89)] v290 := by rw [ev290]; exact (by rw [hF204 12 2 rfl]; exact (by rw [hF89 12 2 rfl]; exact (by rw [hF17 12 2 rfl]; exact f15)))
                              have xv290 : v290 = I0 12 2 := ev290.trans rfl
                              refine lv_isub hx hb dX2_number_78 ?_
                              refine lv_topi (fun v291 ev291 => ?_)
                              have dv291 : dkN [(3, 3)] v291 := by rw [ev291]; exact dkN_lit (3) (by have h0 : v290.toInt = v1.toInt := congrArg Int32.toInt (xv290.trans xv1.symm); have h9 := dk_subE (x := v282) (y := v290) dv282 dv290 rfl; have h1 : v282.toInt = v167.toInt + 1 := (by rw [ev282]; exact dk_inc d202 rfl); have h2 : v167.toInt = v52.toInt + 1 := (by rw [ev167]; exact dk_inc d87 rfl); have h3 : v52.toInt = v1.toInt + 1 := (by rw [ev52]; exact dk_inc d14 rfl); omega)
                              have xv291 : v291 = ((((I0 12 2) + 1) + 1) + 1) - (I0 12 2) := by rw [ev291, xv282, xv290]
                              have q292 : (((((I0 12 2) + 1) + 1) + 1) - (I0 12 2)).toInt = ((((I0 12 2) + 1) + 1) + 1).toInt - (I0 12 2).toInt := by first | (rw [← xv291, ← xv282, ← xv290]; exact (by rw [ev291]; exact dk_subE dv282 dv290 rfl)) | (subst xv291 xv282 xv290; exact (by rw [ev291]; exact dk_subE dv282 dv290 rfl))
                              refine lv_iconst (v := 2) hx hb dX2_number_79 (by decide) ?_
                              refine lv_icmp_le (tgt := 92) hx hb dX2_number_80 (by decide) (fun c293 => ?_) (fun c293 => ?_)
                              ·
                                exact (dkN_nil (show dkN [] v291 from dkN_le1 0 dv291 (dkN_lit (x := 2) (2) rfl) (dkc_le c293) rfl)).elim
                              ·
                                have q294 : (2 : Int) + 1 ≤ (((((I0 12 2) + 1) + 1) + 1) - (I0 12 2)).toInt := by first | (rw [← xv291]; exact (dkc_nle c293)) | (subst xv291; exact (dkc_nle c293))
                                refine lv_aload_n hx hb dX2_number_83 rfl (lv_at hl 2 rfl) ?_
                                refine lv_iconst (v := 1) hx hb dX2_number_84 (by decide) ?_
                                refine dk_Vi (As := [.int 1]) (rest := []) ⟨hx, hb, hml, hown, hts⟩ (fx_X2_meets_3 l g z I0 1 (dkN_lit (x := 1) (1) rfl) hO) (cwV 1 hts gX2_number_X2_meets rfl rfl rfl (by decide +kernel) ⟨Nat.le_of_ble_eq_true rfl, Nat.le_of_ble_eq_true rfl⟩) (dk_at12 hW) rfl hK hT hW hS rfl hl.1 rfl (Nat.le_of_ble_eq_true rfl) dX2_number_85 ⟨Nat.zero_le _, Nat.zero_le _⟩ (fun v295 I295 H295 L295 hp295 hW hS => ?_)
                                obtain ⟨hF295, hO, hc295⟩ := hp295
                                have hF := dkF_call hF hF295 rfl
                                obtain ⟨dv295, f295_12_4, f295_12_5, xr295, xh295_0, xh295_1, xh295_2, -⟩ := hc295
                                have y296 : I295 12 2 = I0 12 2 := by have h := xh295_0; exact h
                                have y297 : I295 12 4 = I0 12 2 := by have h := xh295_1; exact h
                                have y298 : I295 12 5 = 1 := by have h := xh295_2; exact h
                                have xv295 : v295 = 0 := by have h := xr295; exact h
                                refine lv_pop hx hb dX2_number_88 rfl ?_
                                refine lv_ldc (v := (-1000000)) hx hb hown (hts (.constant RX2 50 (-1000000)) (List.mem_of_getElem? (i := 4) rfl)) dX2_number_89 ?_
                                exact W.iret (v := (-1000000)) hx hb hr (fun t ht hW9 => ⟨⟨(-1000000), I295, rfl, ⟨hF, hO, Or.inr (Or.inr (Or.inr (Or.inr (Or.inr (Or.inr (Or.inr (Or.inr (Or.inr (Or.inr (Or.inr (Or.inr (Or.inr (Or.inr (Or.inr (Or.inr (Or.inr (Or.inr (Or.inr (Or.inr (Or.inr (Or.inl ⟨dkN_sub (dkN_lit (x := (-1000000)) (-1000000) rfl) rfl, (show dkN [(3, 90)] (I295 12 1) from dkN_sub (by rw [hF295 12 1 rfl]; exact (by rw [hF204 12 1 rfl]; exact f201)) rfl), (show dkN [(0, 89)] (I295 12 2) from dkN_sub (by rw [hF295 12 2 rfl]; exact (by rw [hF204 12 2 rfl]; exact (by rw [hF89 12 2 rfl]; exact (by rw [hF17 12 2 rfl]; exact f15)))) rfl), (show dkN [(0, 90)] (I295 12 4) from dkN_sub f295_12_4 rfl), (show dkN [(1, 1)] (I295 12 5) from dkN_sub f295_12_5 rfl), q11, q37, q38, q43, q45, q49, q51, q53, q84, q151, q152, q157, q159, q161, q164, q166, q168, q199, q266, q267, q272, q274, q276, q279, q281, q283, q286, q289, q292, q294, rfl, y296, y297, y298, trivial⟩)))))))))))))))))))))⟩, dkW_eq ht hW⟩, hS.F ht⟩) hS.2.2 dX2_number_91
                          ·
                            have q299 : ((((I0 12 2) + 1) + 1) + 1).toInt + 1 ≤ (I0 12 1).toInt := by first | (rw [← xv284, ← xv282]; exact (dkc_nle c285)) | (subst xv284 xv282; exact (dkc_nle c285))
                            have d300 : dkN [(4, 90)] v284 := dkN_le2 1 dv282 dv284 (dkc_nle c285) rfl
                            have f301 : dkN [(4, 90)] (I0 12 1) := by rw [← ev284]; exact d300
                            have d302 : dkN [(3, 89)] v282 := dkN_le1 1 dv282 dv284 (dkc_nle c285) rfl
                            refine lv_aload_n hx hb dX2_number_17 rfl (lv_at hl 2 rfl) ?_
                            refine dk_get (k := 12) hx hb hts iX2_number_2 hown hK (dk_at12 hW) rfl 0 (by decide) (hts (.fieldLink RX2 11 "DogKings$Reader" "tape" "[I") (List.mem_of_getElem? (i := 3) rfl)) rfl dX2_number_18 ?_
                            refine lv_iload hx hb dX2_number_21 (lv_at hl 0 rfl) ?_
                            refine dk_ild (k := 13) hx hb hK (dk_at13 hW) (dkN_in (n := 90) d302 rfl) dX2_number_23 ?_
                            refine lv_topi (fun v303 ev303 => ?_)
                            have dv303 : dkN [(0, 255)] v303 := by rw [ev303]; exact (hO 13 _)
                            have xv303 : v303 = I0 13 (Int32.toNatClampNeg ((((I0 12 2) + 1) + 1) + 1)) := ev303.trans (by rw [xv282])
                            refine dk_Si (As := [.int v303]) (rest := []) ⟨hx, hb, hml, hown, hts⟩ (fx_X2_isFigure_1 l g z I0 v303 dv303 hO) (va_cwS 1 hts gX2_number_X2_isFigure rfl rfl rfl (by decide +kernel) ⟨Nat.le_of_ble_eq_true rfl, Nat.le_of_ble_eq_true rfl⟩) hK hT hW hS rfl hl.1 rfl (Nat.le_of_ble_eq_true rfl) dX2_number_24 ⟨Nat.zero_le _, Nat.zero_le _⟩ (fun v304 I304 H304 L304 hp304 hW hS => ?_)
                            obtain ⟨hF304, hO, hc304⟩ := hp304
                            have hF := dkF_call hF hF304 rfl
                            have eI304 : I0 = I304 := (dkF_nil hF304).symm
                            subst eI304
                            rcases hc304 with ⟨dv304, a304_0, x304_0, xr304, -⟩ | hc304
                            ·
                              have q305 : (I0 13 (Int32.toNatClampNeg ((((I0 12 2) + 1) + 1) + 1))).toInt + 1 ≤ (48 : Int) := by have h := x304_0; rw [xv303] at h; exact h
                              have xv304 : v304 = 0 := by have h := xr304; exact h
                              have d306 : dkN [(0, 47)] v303 := dkN_eq1 dv303 a304_0 rfl rfl
                              refine lv_if_eq (tgt := 63) hx hb dX2_number_27 (by decide) (fun c307 => ?_) (fun c307 => ?_)
                              ·
                                refine lv_iload hx hb dX2_number_63 (lv_at hl 0 rfl) ?_
                                refine lv_aload_n hx hb dX2_number_65 rfl (lv_at hl 2 rfl) ?_
                                refine dk_get (k := 12) hx hb hts iX2_number_2 hown hK (dk_at12 hW) rfl 2 (by decide) (hts (.fieldLink RX2 30 "DogKings$Reader" "at" "I") (List.mem_of_getElem? (i := 1) rfl)) rfl dX2_number_66 ?_
                                refine lv_topi (fun v308 ev308 => ?_)
                                have dv308 : dkN [(0, 89)] v308 := by rw [ev308]; exact (by rw [hF304 12 2 rfl]; exact (by rw [hF204 12 2 rfl]; exact (by rw [hF89 12 2 rfl]; exact (by rw [hF17 12 2 rfl]; exact f15))))
                                have xv308 : v308 = I0 12 2 := ev308.trans rfl
                                refine lv_icmp_eq (tgt := 83) hx hb dX2_number_69 (by decide) (fun c309 => ?_) (fun c309 => ?_)
                                ·
                                  exact absurd (congrArg Int32.toInt c309) (by have h0 : v308.toInt = v1.toInt := congrArg Int32.toInt (xv308.trans xv1.symm); have h1 : v282.toInt = v167.toInt + 1 := (by rw [ev282]; exact dk_inc d202 rfl); have h2 : v167.toInt = v52.toInt + 1 := (by rw [ev167]; exact dk_inc d87 rfl); have h3 : v52.toInt = v1.toInt + 1 := (by rw [ev52]; exact dk_inc d14 rfl); omega)
                                ·
                                  have q310 : ((((I0 12 2) + 1) + 1) + 1).toInt ≠ (I0 12 2).toInt := by first | (rw [← xv282, ← xv308]; exact (dk_ne c309)) | (subst xv282 xv308; exact (dk_ne c309))
                                  refine lv_iload hx hb dX2_number_72 (lv_at hl 0 rfl) ?_
                                  refine lv_aload_n hx hb dX2_number_74 rfl (lv_at hl 2 rfl) ?_
                                  refine dk_get (k := 12) hx hb hts iX2_number_2 hown hK (dk_at12 hW) rfl 2 (by decide) (hts (.fieldLink RX2 30 "DogKings$Reader" "at" "I") (List.mem_of_getElem? (i := 1) rfl)) rfl dX2_number_75 ?_
                                  refine lv_topi (fun v311 ev311 => ?_)
                                  have dv311 : dkN [(0, 89)] v311 := by rw [ev311]; exact (by rw [hF304 12 2 rfl]; exact (by rw [hF204 12 2 rfl]; exact (by rw [hF89 12 2 rfl]; exact (by rw [hF17 12 2 rfl]; exact f15))))
                                  have xv311 : v311 = I0 12 2 := ev311.trans rfl
                                  refine lv_isub hx hb dX2_number_78 ?_
                                  refine lv_topi (fun v312 ev312 => ?_)
                                  have dv312 : dkN [(3, 3)] v312 := by rw [ev312]; exact dkN_lit (3) (by have h0 : v311.toInt = v1.toInt := congrArg Int32.toInt (xv311.trans xv1.symm); have h9 := dk_subE (x := v282) (y := v311) d302 dv311 rfl; have h1 : v282.toInt = v167.toInt + 1 := (by rw [ev282]; exact dk_inc d202 rfl); have h2 : v167.toInt = v52.toInt + 1 := (by rw [ev167]; exact dk_inc d87 rfl); have h3 : v52.toInt = v1.toInt + 1 := (by rw [ev52]; exact dk_inc d14 rfl); omega)
                                  have xv312 : v312 = ((((I0 12 2) + 1) + 1) + 1) - (I0 12 2) := by rw [ev312, xv282, xv311]
                                  have q313 : (((((I0 12 2) + 1) + 1) + 1) - (I0 12 2)).toInt = ((((I0 12 2) + 1) + 1) + 1).toInt - (I0 12 2).toInt := by first | (rw [← xv312, ← xv282, ← xv311]; exact (by rw [ev312]; exact dk_subE d302 dv311 rfl)) | (subst xv312 xv282 xv311; exact (by rw [ev312]; exact dk_subE d302 dv311 rfl))
                                  refine lv_iconst (v := 2) hx hb dX2_number_79 (by decide) ?_
                                  refine lv_icmp_le (tgt := 92) hx hb dX2_number_80 (by decide) (fun c314 => ?_) (fun c314 => ?_)
                                  ·
                                    exact (dkN_nil (show dkN [] v312 from dkN_le1 0 dv312 (dkN_lit (x := 2) (2) rfl) (dkc_le c314) rfl)).elim
                                  ·
                                    have q315 : (2 : Int) + 1 ≤ (((((I0 12 2) + 1) + 1) + 1) - (I0 12 2)).toInt := by first | (rw [← xv312]; exact (dkc_nle c314)) | (subst xv312; exact (dkc_nle c314))
                                    refine lv_aload_n hx hb dX2_number_83 rfl (lv_at hl 2 rfl) ?_
                                    refine lv_iconst (v := 1) hx hb dX2_number_84 (by decide) ?_
                                    refine dk_Vi (As := [.int 1]) (rest := []) ⟨hx, hb, hml, hown, hts⟩ (fx_X2_meets_3 l g z I0 1 (dkN_lit (x := 1) (1) rfl) hO) (cwV 1 hts gX2_number_X2_meets rfl rfl rfl (by decide +kernel) ⟨Nat.le_of_ble_eq_true rfl, Nat.le_of_ble_eq_true rfl⟩) (dk_at12 hW) rfl hK hT hW hS rfl hl.1 rfl (Nat.le_of_ble_eq_true rfl) dX2_number_85 ⟨Nat.zero_le _, Nat.zero_le _⟩ (fun v316 I316 H316 L316 hp316 hW hS => ?_)
                                    obtain ⟨hF316, hO, hc316⟩ := hp316
                                    have hF := dkF_call hF hF316 rfl
                                    obtain ⟨dv316, f316_12_4, f316_12_5, xr316, xh316_0, xh316_1, xh316_2, -⟩ := hc316
                                    have y317 : I316 12 2 = I0 12 2 := by have h := xh316_0; exact h
                                    have y318 : I316 12 4 = I0 12 2 := by have h := xh316_1; exact h
                                    have y319 : I316 12 5 = 1 := by have h := xh316_2; exact h
                                    have xv316 : v316 = 0 := by have h := xr316; exact h
                                    refine lv_pop hx hb dX2_number_88 rfl ?_
                                    refine lv_ldc (v := (-1000000)) hx hb hown (hts (.constant RX2 50 (-1000000)) (List.mem_of_getElem? (i := 4) rfl)) dX2_number_89 ?_
                                    exact W.iret (v := (-1000000)) hx hb hr (fun t ht hW9 => ⟨⟨(-1000000), I316, rfl, ⟨hF, hO, Or.inr (Or.inr (Or.inr (Or.inr (Or.inr (Or.inr (Or.inr (Or.inr (Or.inr (Or.inr (Or.inr (Or.inr (Or.inr (Or.inr (Or.inr (Or.inr (Or.inr (Or.inr (Or.inr (Or.inr (Or.inr (Or.inr (Or.inl ⟨dkN_sub (dkN_lit (x := (-1000000)) (-1000000) rfl) rfl, (show dkN [(4, 90)] (I316 12 1) from dkN_sub (by rw [hF316 12 1 rfl]; exact (by rw [hF304 12 1 rfl]; exact f301)) rfl), (show dkN [(0, 89)] (I316 12 2) from dkN_sub (by rw [hF316 12 2 rfl]; exact (by rw [hF304 12 2 rfl]; exact (by rw [hF204 12 2 rfl]; exact (by rw [hF89 12 2 rfl]; exact (by rw [hF17 12 2 rfl]; exact f15))))) rfl), (show dkN [(0, 90)] (I316 12 4) from dkN_sub f316_12_4 rfl), (show dkN [(1, 1)] (I316 12 5) from dkN_sub f316_12_5 rfl), q11, q37, q38, q43, q45, q49, q51, q53, q84, q151, q152, q157, q159, q161, q164, q166, q168, q199, q266, q267, q272, q274, q276, q279, q281, q283, q299, q305, q310, q313, q315, rfl, y317, y318, y319, trivial⟩))))))))))))))))))))))⟩, dkW_eq ht hW⟩, hS.F ht⟩) hS.2.2 dX2_number_91
                              ·
                                exact absurd ((xv304).trans (rfl).symm) c307
                            rcases hc304 with ⟨dv304, a304_0, x304_0, x304_1, xr304, -⟩ | hc304
                            ·
                              have q320 : (48 : Int) + 0 ≤ (I0 13 (Int32.toNatClampNeg ((((I0 12 2) + 1) + 1) + 1))).toInt := by have h := x304_0; rw [xv303] at h; exact h
                              have q321 : (57 : Int) + 1 ≤ (I0 13 (Int32.toNatClampNeg ((((I0 12 2) + 1) + 1) + 1))).toInt := by have h := x304_1; rw [xv303] at h; exact h
                              have xv304 : v304 = 0 := by have h := xr304; exact h
                              have d322 : dkN [(58, 255)] v303 := dkN_eq1 dv303 a304_0 rfl rfl
                              refine lv_if_eq (tgt := 63) hx hb dX2_number_27 (by decide) (fun c323 => ?_) (fun c323 => ?_)
                              ·
                                refine lv_iload hx hb dX2_number_63 (lv_at hl 0 rfl) ?_
                                refine lv_aload_n hx hb dX2_number_65 rfl (lv_at hl 2 rfl) ?_
                                refine dk_get (k := 12) hx hb hts iX2_number_2 hown hK (dk_at12 hW) rfl 2 (by decide) (hts (.fieldLink RX2 30 "DogKings$Reader" "at" "I") (List.mem_of_getElem? (i := 1) rfl)) rfl dX2_number_66 ?_
                                refine lv_topi (fun v324 ev324 => ?_)
                                have dv324 : dkN [(0, 89)] v324 := by rw [ev324]; exact (by rw [hF304 12 2 rfl]; exact (by rw [hF204 12 2 rfl]; exact (by rw [hF89 12 2 rfl]; exact (by rw [hF17 12 2 rfl]; exact f15))))
                                have xv324 : v324 = I0 12 2 := ev324.trans rfl
                                refine lv_icmp_eq (tgt := 83) hx hb dX2_number_69 (by decide) (fun c325 => ?_) (fun c325 => ?_)
                                ·
                                  exact absurd (congrArg Int32.toInt c325) (by have h0 : v324.toInt = v1.toInt := congrArg Int32.toInt (xv324.trans xv1.symm); have h1 : v282.toInt = v167.toInt + 1 := (by rw [ev282]; exact dk_inc d202 rfl); have h2 : v167.toInt = v52.toInt + 1 := (by rw [ev167]; exact dk_inc d87 rfl); have h3 : v52.toInt = v1.toInt + 1 := (by rw [ev52]; exact dk_inc d14 rfl); omega)
                                ·
                                  have q326 : ((((I0 12 2) + 1) + 1) + 1).toInt ≠ (I0 12 2).toInt := by first | (rw [← xv282, ← xv324]; exact (dk_ne c325)) | (subst xv282 xv324; exact (dk_ne c325))
                                  refine lv_iload hx hb dX2_number_72 (lv_at hl 0 rfl) ?_
                                  refine lv_aload_n hx hb dX2_number_74 rfl (lv_at hl 2 rfl) ?_
                                  refine dk_get (k := 12) hx hb hts iX2_number_2 hown hK (dk_at12 hW) rfl 2 (by decide) (hts (.fieldLink RX2 30 "DogKings$Reader" "at" "I") (List.mem_of_getElem? (i := 1) rfl)) rfl dX2_number_75 ?_
                                  refine lv_topi (fun v327 ev327 => ?_)
                                  have dv327 : dkN [(0, 89)] v327 := by rw [ev327]; exact (by rw [hF304 12 2 rfl]; exact (by rw [hF204 12 2 rfl]; exact (by rw [hF89 12 2 rfl]; exact (by rw [hF17 12 2 rfl]; exact f15))))
                                  have xv327 : v327 = I0 12 2 := ev327.trans rfl
                                  refine lv_isub hx hb dX2_number_78 ?_
                                  refine lv_topi (fun v328 ev328 => ?_)
                                  have dv328 : dkN [(3, 3)] v328 := by rw [ev328]; exact dkN_lit (3) (by have h0 : v327.toInt = v1.toInt := congrArg Int32.toInt (xv327.trans xv1.symm); have h9 := dk_subE (x := v282) (y := v327) d302 dv327 rfl; have h1 : v282.toInt = v167.toInt + 1 := (by rw [ev282]; exact dk_inc d202 rfl); have h2 : v167.toInt = v52.toInt + 1 := (by rw [ev167]; exact dk_inc d87 rfl); have h3 : v52.toInt = v1.toInt + 1 := (by rw [ev52]; exact dk_inc d14 rfl); omega)
                                  have xv328 : v328 = ((((I0 12 2) + 1) + 1) + 1) - (I0 12 2) := by rw [ev328, xv282, xv327]
                                  have q329 : (((((I0 12 2) + 1) + 1) + 1) - (I0 12 2)).toInt = ((((I0 12 2) + 1) + 1) + 1).toInt - (I0 12 2).toInt := by first | (rw [← xv328, ← xv282, ← xv327]; exact (by rw [ev328]; exact dk_subE d302 dv327 rfl)) | (subst xv328 xv282 xv327; exact (by rw [ev328]; exact dk_subE d302 dv327 rfl))
                                  refine lv_iconst (v := 2) hx hb dX2_number_79 (by decide) ?_
                                  refine lv_icmp_le (tgt := 92) hx hb dX2_number_80 (by decide) (fun c330 => ?_) (fun c330 => ?_)
                                  ·
                                    exact (dkN_nil (show dkN [] v328 from dkN_le1 0 dv328 (dkN_lit (x := 2) (2) rfl) (dkc_le c330) rfl)).elim
                                  ·
                                    have q331 : (2 : Int) + 1 ≤ (((((I0 12 2) + 1) + 1) + 1) - (I0 12 2)).toInt := by first | (rw [← xv328]; exact (dkc_nle c330)) | (subst xv328; exact (dkc_nle c330))
                                    refine lv_aload_n hx hb dX2_number_83 rfl (lv_at hl 2 rfl) ?_
                                    refine lv_iconst (v := 1) hx hb dX2_number_84 (by decide) ?_
                                    refine dk_Vi (As := [.int 1]) (rest := []) ⟨hx, hb, hml, hown, hts⟩ (fx_X2_meets_3 l g z I0 1 (dkN_lit (x := 1) (1) rfl) hO) (cwV 1 hts gX2_number_X2_meets rfl rfl rfl (by decide +kernel) ⟨Nat.le_of_ble_eq_true rfl, Nat.le_of_ble_eq_true rfl⟩) (dk_at12 hW) rfl hK hT hW hS rfl hl.1 rfl (Nat.le_of_ble_eq_true rfl) dX2_number_85 ⟨Nat.zero_le _, Nat.zero_le _⟩ (fun v332 I332 H332 L332 hp332 hW hS => ?_)
                                    obtain ⟨hF332, hO, hc332⟩ := hp332
                                    have hF := dkF_call hF hF332 rfl
                                    obtain ⟨dv332, f332_12_4, f332_12_5, xr332, xh332_0, xh332_1, xh332_2, -⟩ := hc332
                                    have y333 : I332 12 2 = I0 12 2 := by have h := xh332_0; exact h
                                    have y334 : I332 12 4 = I0 12 2 := by have h := xh332_1; exact h
                                    have y335 : I332 12 5 = 1 := by have h := xh332_2; exact h
                                    have xv332 : v332 = 0 := by have h := xr332; exact h
                                    refine lv_pop hx hb dX2_number_88 rfl ?_
                                    refine lv_ldc (v := (-1000000)) hx hb hown (hts (.constant RX2 50 (-1000000)) (List.mem_of_getElem? (i := 4) rfl)) dX2_number_89 ?_
                                    exact W.iret (v := (-1000000)) hx hb hr (fun t ht hW9 => ⟨⟨(-1000000), I332, rfl, ⟨hF, hO, Or.inr (Or.inr (Or.inr (Or.inr (Or.inr (Or.inr (Or.inr (Or.inr (Or.inr (Or.inr (Or.inr (Or.inr (Or.inr (Or.inr (Or.inr (Or.inr (Or.inr (Or.inr (Or.inr (Or.inr (Or.inr (Or.inr (Or.inr (Or.inl ⟨dkN_sub (dkN_lit (x := (-1000000)) (-1000000) rfl) rfl, (show dkN [(4, 90)] (I332 12 1) from dkN_sub (by rw [hF332 12 1 rfl]; exact (by rw [hF304 12 1 rfl]; exact f301)) rfl), (show dkN [(0, 89)] (I332 12 2) from dkN_sub (by rw [hF332 12 2 rfl]; exact (by rw [hF304 12 2 rfl]; exact (by rw [hF204 12 2 rfl]; exact (by rw [hF89 12 2 rfl]; exact (by rw [hF17 12 2 rfl]; exact f15))))) rfl), (show dkN [(0, 90)] (I332 12 4) from dkN_sub f332_12_4 rfl), (show dkN [(1, 1)] (I332 12 5) from dkN_sub f332_12_5 rfl), q11, q37, q38, q43, q45, q49, q51, q53, q84, q151, q152, q157, q159, q161, q164, q166, q168, q199, q266, q267, q272, q274, q276, q279, q281, q283, q299, q320, q321, q326, q329, q331, rfl, y333, y334, y335, trivial⟩)))))))))))))))))))))))⟩, dkW_eq ht hW⟩, hS.F ht⟩) hS.2.2 dX2_number_91
                              ·
                                exact absurd ((xv304).trans (rfl).symm) c323
                            ·
                              obtain ⟨dv304, a304_0, x304_0, x304_1, xr304, -⟩ := hc304
                              have q336 : (48 : Int) + 0 ≤ (I0 13 (Int32.toNatClampNeg ((((I0 12 2) + 1) + 1) + 1))).toInt := by have h := x304_0; rw [xv303] at h; exact h
                              have q337 : (I0 13 (Int32.toNatClampNeg ((((I0 12 2) + 1) + 1) + 1))).toInt + 0 ≤ (57 : Int) := by have h := x304_1; rw [xv303] at h; exact h
                              have xv304 : v304 = 1 := by have h := xr304; exact h
                              have d338 : dkN [(48, 57)] v303 := dkN_eq1 dv303 a304_0 rfl rfl
                              refine lv_if_eq (tgt := 63) hx hb dX2_number_27 (by decide) (fun c339 => ?_) (fun c339 => ?_)
                              ·
                                exact (dkN_nil (show dkN [] v304 from dkN_eq1 dv304 (dkN_lit (x := 0) (0) rfl) (congrArg Int32.toInt c339) rfl)).elim
                              ·
                                refine lv_iload hx hb dX2_number_30 (lv_at hl 0 rfl) ?_
                                refine lv_aload_n hx hb dX2_number_32 rfl (lv_at hl 2 rfl) ?_
                                refine dk_get (k := 12) hx hb hts iX2_number_2 hown hK (dk_at12 hW) rfl 2 (by decide) (hts (.fieldLink RX2 30 "DogKings$Reader" "at" "I") (List.mem_of_getElem? (i := 1) rfl)) rfl dX2_number_33 ?_
                                refine lv_topi (fun v340 ev340 => ?_)
                                have dv340 : dkN [(0, 89)] v340 := by rw [ev340]; exact (by rw [hF304 12 2 rfl]; exact (by rw [hF204 12 2 rfl]; exact (by rw [hF89 12 2 rfl]; exact (by rw [hF17 12 2 rfl]; exact f15))))
                                have xv340 : v340 = I0 12 2 := ev340.trans rfl
                                refine lv_isub hx hb dX2_number_36 ?_
                                refine lv_topi (fun v341 ev341 => ?_)
                                have dv341 : dkN [(3, 3)] v341 := by rw [ev341]; exact dkN_lit (3) (by have h0 : v340.toInt = v1.toInt := congrArg Int32.toInt (xv340.trans xv1.symm); have h9 := dk_subE (x := v282) (y := v340) d302 dv340 rfl; have h1 : v282.toInt = v167.toInt + 1 := (by rw [ev282]; exact dk_inc d202 rfl); have h2 : v167.toInt = v52.toInt + 1 := (by rw [ev167]; exact dk_inc d87 rfl); have h3 : v52.toInt = v1.toInt + 1 := (by rw [ev52]; exact dk_inc d14 rfl); omega)
                                have xv341 : v341 = ((((I0 12 2) + 1) + 1) + 1) - (I0 12 2) := by rw [ev341, xv282, xv340]
                                have q342 : (((((I0 12 2) + 1) + 1) + 1) - (I0 12 2)).toInt = ((((I0 12 2) + 1) + 1) + 1).toInt - (I0 12 2).toInt := by first | (rw [← xv341, ← xv282, ← xv340]; exact (by rw [ev341]; exact dk_subE d302 dv340 rfl)) | (subst xv341 xv282 xv340; exact (by rw [ev341]; exact dk_subE d302 dv340 rfl))
                                refine lv_iconst (v := 3) hx hb dX2_number_37 (by decide) ?_
                                refine lv_icmp_ge (tgt := 63) hx hb dX2_number_38 (by decide) (fun c343 => ?_) (fun c343 => ?_)
                                ·
                                  have q344 : (3 : Int) + 0 ≤ (((((I0 12 2) + 1) + 1) + 1) - (I0 12 2)).toInt := by first | (rw [← xv341]; exact (dkc_le c343)) | (subst xv341; exact (dkc_le c343))
                                  refine lv_iload hx hb dX2_number_63 (lv_at hl 0 rfl) ?_
                                  refine lv_aload_n hx hb dX2_number_65 rfl (lv_at hl 2 rfl) ?_
                                  refine dk_get (k := 12) hx hb hts iX2_number_2 hown hK (dk_at12 hW) rfl 2 (by decide) (hts (.fieldLink RX2 30 "DogKings$Reader" "at" "I") (List.mem_of_getElem? (i := 1) rfl)) rfl dX2_number_66 ?_
                                  refine lv_topi (fun v345 ev345 => ?_)
                                  have dv345 : dkN [(0, 89)] v345 := by rw [ev345]; exact (by rw [hF304 12 2 rfl]; exact (by rw [hF204 12 2 rfl]; exact (by rw [hF89 12 2 rfl]; exact (by rw [hF17 12 2 rfl]; exact f15))))
                                  have xv345 : v345 = I0 12 2 := ev345.trans rfl
                                  refine lv_icmp_eq (tgt := 83) hx hb dX2_number_69 (by decide) (fun c346 => ?_) (fun c346 => ?_)
                                  ·
                                    exact absurd (congrArg Int32.toInt c346) (by have h0 : v345.toInt = v1.toInt := congrArg Int32.toInt (xv345.trans xv1.symm); have h1 : v282.toInt = v167.toInt + 1 := (by rw [ev282]; exact dk_inc d202 rfl); have h2 : v167.toInt = v52.toInt + 1 := (by rw [ev167]; exact dk_inc d87 rfl); have h3 : v52.toInt = v1.toInt + 1 := (by rw [ev52]; exact dk_inc d14 rfl); omega)
                                  ·
                                    have q347 : ((((I0 12 2) + 1) + 1) + 1).toInt ≠ (I0 12 2).toInt := by first | (rw [← xv282, ← xv345]; exact (dk_ne c346)) | (subst xv282 xv345; exact (dk_ne c346))
                                    refine lv_iload hx hb dX2_number_72 (lv_at hl 0 rfl) ?_
                                    refine lv_aload_n hx hb dX2_number_74 rfl (lv_at hl 2 rfl) ?_
                                    refine dk_get (k := 12) hx hb hts iX2_number_2 hown hK (dk_at12 hW) rfl 2 (by decide) (hts (.fieldLink RX2 30 "DogKings$Reader" "at" "I") (List.mem_of_getElem? (i := 1) rfl)) rfl dX2_number_75 ?_
                                    refine lv_topi (fun v348 ev348 => ?_)
                                    have dv348 : dkN [(0, 89)] v348 := by rw [ev348]; exact (by rw [hF304 12 2 rfl]; exact (by rw [hF204 12 2 rfl]; exact (by rw [hF89 12 2 rfl]; exact (by rw [hF17 12 2 rfl]; exact f15))))
                                    have xv348 : v348 = I0 12 2 := ev348.trans rfl
                                    refine lv_isub hx hb dX2_number_78 ?_
                                    refine lv_topi (fun v349 ev349 => ?_)
                                    have dv349 : dkN [(3, 3)] v349 := by rw [ev349]; exact dkN_lit (3) (by have h0 : v348.toInt = v1.toInt := congrArg Int32.toInt (xv348.trans xv1.symm); have h9 := dk_subE (x := v282) (y := v348) d302 dv348 rfl; have h1 : v282.toInt = v167.toInt + 1 := (by rw [ev282]; exact dk_inc d202 rfl); have h2 : v167.toInt = v52.toInt + 1 := (by rw [ev167]; exact dk_inc d87 rfl); have h3 : v52.toInt = v1.toInt + 1 := (by rw [ev52]; exact dk_inc d14 rfl); omega)
                                    have xv349 : v349 = ((((I0 12 2) + 1) + 1) + 1) - (I0 12 2) := by rw [ev349, xv282, xv348]
                                    refine lv_iconst (v := 2) hx hb dX2_number_79 (by decide) ?_
                                    refine lv_icmp_le (tgt := 92) hx hb dX2_number_80 (by decide) (fun c350 => ?_) (fun c350 => ?_)
                                    ·
                                      exact (dkN_nil (show dkN [] v349 from dkN_le1 0 dv349 (dkN_lit (x := 2) (2) rfl) (dkc_le c350) rfl)).elim
                                    ·
                                      have q351 : (2 : Int) + 1 ≤ (((((I0 12 2) + 1) + 1) + 1) - (I0 12 2)).toInt := by first | (rw [← xv349]; exact (dkc_nle c350)) | (subst xv349; exact (dkc_nle c350))
                                      refine lv_aload_n hx hb dX2_number_83 rfl (lv_at hl 2 rfl) ?_
                                      refine lv_iconst (v := 1) hx hb dX2_number_84 (by decide) ?_
                                      refine dk_Vi (As := [.int 1]) (rest := []) ⟨hx, hb, hml, hown, hts⟩ (fx_X2_meets_3 l g z I0 1 (dkN_lit (x := 1) (1) rfl) hO) (cwV 1 hts gX2_number_X2_meets rfl rfl rfl (by decide +kernel) ⟨Nat.le_of_ble_eq_true rfl, Nat.le_of_ble_eq_true rfl⟩) (dk_at12 hW) rfl hK hT hW hS rfl hl.1 rfl (Nat.le_of_ble_eq_true rfl) dX2_number_85 ⟨Nat.zero_le _, Nat.zero_le _⟩ (fun v352 I352 H352 L352 hp352 hW hS => ?_)
                                      obtain ⟨hF352, hO, hc352⟩ := hp352
                                      have hF := dkF_call hF hF352 rfl
                                      obtain ⟨dv352, f352_12_4, f352_12_5, xr352, xh352_0, xh352_1, xh352_2, -⟩ := hc352
                                      have y353 : I352 12 2 = I0 12 2 := by have h := xh352_0; exact h
                                      have y354 : I352 12 4 = I0 12 2 := by have h := xh352_1; exact h
                                      have y355 : I352 12 5 = 1 := by have h := xh352_2; exact h
                                      have xv352 : v352 = 0 := by have h := xr352; exact h
                                      refine lv_pop hx hb dX2_number_88 rfl ?_
                                      refine lv_ldc (v := (-1000000)) hx hb hown (hts (.constant RX2 50 (-1000000)) (List.mem_of_getElem? (i := 4) rfl)) dX2_number_89 ?_
                                      exact W.iret (v := (-1000000)) hx hb hr (fun t ht hW9 => ⟨⟨(-1000000), I352, rfl, ⟨hF, hO, Or.inr (Or.inr (Or.inr (Or.inr (Or.inr (Or.inr (Or.inr (Or.inr (Or.inr (Or.inr (Or.inr (Or.inr (Or.inr (Or.inr (Or.inr (Or.inr (Or.inr (Or.inr (Or.inr (Or.inr (Or.inr (Or.inr (Or.inr (Or.inr (⟨dkN_sub (dkN_lit (x := (-1000000)) (-1000000) rfl) rfl, (show dkN [(4, 90)] (I352 12 1) from dkN_sub (by rw [hF352 12 1 rfl]; exact (by rw [hF304 12 1 rfl]; exact f301)) rfl), (show dkN [(0, 89)] (I352 12 2) from dkN_sub (by rw [hF352 12 2 rfl]; exact (by rw [hF304 12 2 rfl]; exact (by rw [hF204 12 2 rfl]; exact (by rw [hF89 12 2 rfl]; exact (by rw [hF17 12 2 rfl]; exact f15))))) rfl), (show dkN [(0, 90)] (I352 12 4) from dkN_sub f352_12_4 rfl), (show dkN [(1, 1)] (I352 12 5) from dkN_sub f352_12_5 rfl), q11, q37, q38, q43, q45, q49, q51, q53, q84, q151, q152, q157, q159, q161, q164, q166, q168, q199, q266, q267, q272, q274, q276, q279, q281, q283, q299, q336, q337, q342, q344, q347, q351, rfl, y353, y354, y355, trivial⟩))))))))))))))))))))))))⟩, dkW_eq ht hW⟩, hS.F ht⟩) hS.2.2 dX2_number_91
                                ·
                                  exact (dkN_nil (show dkN [] 3 from dkN_le2 1 dv341 (dkN_lit (x := 3) (3) rfl) (dkc_nle c343) rfl)).elim
