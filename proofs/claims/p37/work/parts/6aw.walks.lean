set_option maxHeartbeats 4000000 in
set_option maxRecDepth 100000 in
theorem fx_X6_copy_1 (l : Launch) (g : dkG) (z : Nat) (I0 : dkI) (p0 : Int32) (p1 : Int32) (p2 : Int32) (p3 : Int32) (p4 : Int32)  (hO : dkOk I0) : Met l yX6_copy wsX6_copy (dkR 2) (dkPc g z [.ref (z + 340), .int p0, .int p1, .int p2, .int p3, .int p4] I0) (dkQi g z (fun r I1 => dkF [(340, 340, 4, 4), (343, 343, 0, 359), (344, 344, 0, 39)] I0 I1 ∧ dkOk I1 ∧ ((dkN [(-1000001, -1000001)] r ∧ dkN [(-2147483648, -1)] p0 ∧ p0.toInt + 1 ≤ (0 : Int) ∧ r = (-1000001) ∧ I1 340 4 = I0 340 4 ∧ True) ∨ (dkN [(-1000001, -1000001)] r ∧ dkN [(8, 2147483647)] p0 ∧ (0 : Int) + 0 ≤ p0.toInt ∧ (7 : Int) + 1 ≤ p0.toInt ∧ r = (-1000001) ∧ I1 340 4 = I0 340 4 ∧ True) ∨ (dkN [(-1000001, -1000001)] r ∧ dkN [(0, 7)] p0 ∧ dkN [(-2147483648, -1)] p2 ∧ (0 : Int) + 0 ≤ p0.toInt ∧ p0.toInt + 0 ≤ (7 : Int) ∧ p2.toInt + 1 ≤ (0 : Int) ∧ r = (-1000001) ∧ I1 340 4 = I0 340 4 ∧ True) ∨ (dkN [(-1000001, -1000001)] r ∧ dkN [(0, 7)] p0 ∧ dkN [(8, 2147483647)] p2 ∧ (0 : Int) + 0 ≤ p0.toInt ∧ p0.toInt + 0 ≤ (7 : Int) ∧ (0 : Int) + 0 ≤ p2.toInt ∧ (7 : Int) + 1 ≤ p2.toInt ∧ r = (-1000001) ∧ I1 340 4 = I0 340 4 ∧ True) ∨ (dkN [(-1000012, -1000012)] r ∧ dkN [(0, 7)] p0 ∧ dkN [(-2147483648, -1)] p1 ∧ dkN [(0, 7)] p2 ∧ dkN [(2, 2)] (I1 340 4) ∧ (0 : Int) + 0 ≤ p0.toInt ∧ p0.toInt + 0 ≤ (7 : Int) ∧ (0 : Int) + 0 ≤ p2.toInt ∧ p2.toInt + 0 ≤ (7 : Int) ∧ (I0 341 (Int32.toNatClampNeg p0)).toInt ≠ (-1000000 : Int) ∧ (I0 341 (Int32.toNatClampNeg p2)).toInt ≠ (-1000000 : Int) ∧ (I0 341 (Int32.toNatClampNeg p0)).toInt = (I0 341 (Int32.toNatClampNeg p2)).toInt ∧ p1.toInt + 1 ≤ (0 : Int) ∧ ((-1000010 : Int32) - (2 : Int32)).toInt = (-1000010 : Int) - (2 : Int) ∧ r = (-1000010 : Int32) - (2 : Int32) ∧ I1 340 4 = 2 ∧ True) ∨ (dkN [(-1000012, -1000012)] r ∧ dkN [(0, 7)] p0 ∧ dkN [(0, 2147483647)] p1 ∧ dkN [(0, 7)] p2 ∧ dkN [(-2147483648, -1)] p4 ∧ dkN [(2, 2)] (I1 340 4) ∧ (0 : Int) + 0 ≤ p0.toInt ∧ p0.toInt + 0 ≤ (7 : Int) ∧ (0 : Int) + 0 ≤ p2.toInt ∧ p2.toInt + 0 ≤ (7 : Int) ∧ (I0 341 (Int32.toNatClampNeg p0)).toInt ≠ (-1000000 : Int) ∧ (I0 341 (Int32.toNatClampNeg p2)).toInt ≠ (-1000000 : Int) ∧ (I0 341 (Int32.toNatClampNeg p0)).toInt = (I0 341 (Int32.toNatClampNeg p2)).toInt ∧ (0 : Int) + 0 ≤ p1.toInt ∧ p4.toInt + 1 ≤ (0 : Int) ∧ ((-1000010 : Int32) - (2 : Int32)).toInt = (-1000010 : Int) - (2 : Int) ∧ r = (-1000010 : Int32) - (2 : Int32) ∧ I1 340 4 = 2 ∧ True) ∨ (dkN [(-1000012, -1000012)] r ∧ dkN [(0, 7)] p0 ∧ dkN [(1, 2147483647)] p1 ∧ dkN [(0, 7)] p2 ∧ dkN [(0, 2147483647)] p4 ∧ dkN [(2, 2)] (I1 340 4) ∧ (0 : Int) + 0 ≤ p0.toInt ∧ p0.toInt + 0 ≤ (7 : Int) ∧ (0 : Int) + 0 ≤ p2.toInt ∧ p2.toInt + 0 ≤ (7 : Int) ∧ (I0 341 (Int32.toNatClampNeg p0)).toInt ≠ (-1000000 : Int) ∧ (I0 341 (Int32.toNatClampNeg p2)).toInt ≠ (-1000000 : Int) ∧ (I0 341 (Int32.toNatClampNeg p0)).toInt = (I0 341 (Int32.toNatClampNeg p2)).toInt ∧ (0 : Int) + 0 ≤ p1.toInt ∧ (0 : Int) + 0 ≤ p4.toInt ∧ (I0 342 (Int32.toNatClampNeg p0)).toInt + 1 ≤ p1.toInt ∧ ((-1000010 : Int32) - (2 : Int32)).toInt = (-1000010 : Int) - (2 : Int) ∧ r = (-1000010 : Int32) - (2 : Int32) ∧ I1 340 4 = 2 ∧ True) ∨ (dkN [(-1000012, -1000012)] r ∧ dkN [(0, 7)] p0 ∧ dkN [(0, 40)] p1 ∧ dkN [(0, 7)] p2 ∧ dkN [(0, 2147483647)] p4 ∧ dkN [(2, 2)] (I1 340 4) ∧ (0 : Int) + 0 ≤ p0.toInt ∧ p0.toInt + 0 ≤ (7 : Int) ∧ (0 : Int) + 0 ≤ p2.toInt ∧ p2.toInt + 0 ≤ (7 : Int) ∧ (I0 341 (Int32.toNatClampNeg p0)).toInt ≠ (-1000000 : Int) ∧ (I0 341 (Int32.toNatClampNeg p2)).toInt ≠ (-1000000 : Int) ∧ (I0 341 (Int32.toNatClampNeg p0)).toInt = (I0 341 (Int32.toNatClampNeg p2)).toInt ∧ (0 : Int) + 0 ≤ p1.toInt ∧ (0 : Int) + 0 ≤ p4.toInt ∧ p1.toInt + 0 ≤ (I0 342 (Int32.toNatClampNeg p0)).toInt ∧ ((I0 342 (Int32.toNatClampNeg p0)) - p1).toInt = (I0 342 (Int32.toNatClampNeg p0)).toInt - p1.toInt ∧ ((I0 342 (Int32.toNatClampNeg p0)) - p1).toInt + 1 ≤ p4.toInt ∧ ((-1000010 : Int32) - (2 : Int32)).toInt = (-1000010 : Int) - (2 : Int) ∧ r = (-1000010 : Int32) - (2 : Int32) ∧ I1 340 4 = 2 ∧ True) ∨ (dkN [(-1000012, -1000012)] r ∧ dkN [(0, 7)] p0 ∧ dkN [(0, 40)] p1 ∧ dkN [(0, 7)] p2 ∧ dkN [(-2147483648, -1)] p3 ∧ dkN [(0, 40)] p4 ∧ dkN [(2, 2)] (I1 340 4) ∧ (0 : Int) + 0 ≤ p0.toInt ∧ p0.toInt + 0 ≤ (7 : Int) ∧ (0 : Int) + 0 ≤ p2.toInt ∧ p2.toInt + 0 ≤ (7 : Int) ∧ (I0 341 (Int32.toNatClampNeg p0)).toInt ≠ (-1000000 : Int) ∧ (I0 341 (Int32.toNatClampNeg p2)).toInt ≠ (-1000000 : Int) ∧ (I0 341 (Int32.toNatClampNeg p0)).toInt = (I0 341 (Int32.toNatClampNeg p2)).toInt ∧ (0 : Int) + 0 ≤ p1.toInt ∧ (0 : Int) + 0 ≤ p4.toInt ∧ p1.toInt + 0 ≤ (I0 342 (Int32.toNatClampNeg p0)).toInt ∧ ((I0 342 (Int32.toNatClampNeg p0)) - p1).toInt = (I0 342 (Int32.toNatClampNeg p0)).toInt - p1.toInt ∧ p4.toInt + 0 ≤ ((I0 342 (Int32.toNatClampNeg p0)) - p1).toInt ∧ p3.toInt + 1 ≤ (0 : Int) ∧ ((-1000010 : Int32) - (2 : Int32)).toInt = (-1000010 : Int) - (2 : Int) ∧ r = (-1000010 : Int32) - (2 : Int32) ∧ I1 340 4 = 2 ∧ True) ∨ (dkN [(-1000012, -1000012)] r ∧ dkN [(0, 7)] p0 ∧ dkN [(0, 40)] p1 ∧ dkN [(0, 7)] p2 ∧ dkN [(1, 2147483647)] p3 ∧ dkN [(0, 40)] p4 ∧ dkN [(2, 2)] (I1 340 4) ∧ (0 : Int) + 0 ≤ p0.toInt ∧ p0.toInt + 0 ≤ (7 : Int) ∧ (0 : Int) + 0 ≤ p2.toInt ∧ p2.toInt + 0 ≤ (7 : Int) ∧ (I0 341 (Int32.toNatClampNeg p0)).toInt ≠ (-1000000 : Int) ∧ (I0 341 (Int32.toNatClampNeg p2)).toInt ≠ (-1000000 : Int) ∧ (I0 341 (Int32.toNatClampNeg p0)).toInt = (I0 341 (Int32.toNatClampNeg p2)).toInt ∧ (0 : Int) + 0 ≤ p1.toInt ∧ (0 : Int) + 0 ≤ p4.toInt ∧ p1.toInt + 0 ≤ (I0 342 (Int32.toNatClampNeg p0)).toInt ∧ ((I0 342 (Int32.toNatClampNeg p0)) - p1).toInt = (I0 342 (Int32.toNatClampNeg p0)).toInt - p1.toInt ∧ p4.toInt + 0 ≤ ((I0 342 (Int32.toNatClampNeg p0)) - p1).toInt ∧ (0 : Int) + 0 ≤ p3.toInt ∧ (I0 342 (Int32.toNatClampNeg p2)).toInt + 1 ≤ p3.toInt ∧ ((-1000010 : Int32) - (2 : Int32)).toInt = (-1000010 : Int) - (2 : Int) ∧ r = (-1000010 : Int32) - (2 : Int32) ∧ I1 340 4 = 2 ∧ True) ∨ (dkN [(-1000012, -1000012)] r ∧ dkN [(0, 7)] p0 ∧ dkN [(0, 40)] p1 ∧ dkN [(0, 7)] p2 ∧ dkN [(0, 40)] p3 ∧ dkN [(0, 40)] p4 ∧ dkN [(2, 2)] (I1 340 4) ∧ (0 : Int) + 0 ≤ p0.toInt ∧ p0.toInt + 0 ≤ (7 : Int) ∧ (0 : Int) + 0 ≤ p2.toInt ∧ p2.toInt + 0 ≤ (7 : Int) ∧ (I0 341 (Int32.toNatClampNeg p0)).toInt ≠ (-1000000 : Int) ∧ (I0 341 (Int32.toNatClampNeg p2)).toInt ≠ (-1000000 : Int) ∧ (I0 341 (Int32.toNatClampNeg p0)).toInt = (I0 341 (Int32.toNatClampNeg p2)).toInt ∧ (0 : Int) + 0 ≤ p1.toInt ∧ (0 : Int) + 0 ≤ p4.toInt ∧ p1.toInt + 0 ≤ (I0 342 (Int32.toNatClampNeg p0)).toInt ∧ ((I0 342 (Int32.toNatClampNeg p0)) - p1).toInt = (I0 342 (Int32.toNatClampNeg p0)).toInt - p1.toInt ∧ p4.toInt + 0 ≤ ((I0 342 (Int32.toNatClampNeg p0)) - p1).toInt ∧ (0 : Int) + 0 ≤ p3.toInt ∧ p3.toInt + 0 ≤ (I0 342 (Int32.toNatClampNeg p2)).toInt ∧ ((I0 342 (Int32.toNatClampNeg p2)) - p3).toInt = (I0 342 (Int32.toNatClampNeg p2)).toInt - p3.toInt ∧ ((I0 342 (Int32.toNatClampNeg p2)) - p3).toInt + 1 ≤ p4.toInt ∧ ((-1000010 : Int32) - (2 : Int32)).toInt = (-1000010 : Int) - (2 : Int) ∧ r = (-1000010 : Int32) - (2 : Int32) ∧ I1 340 4 = 2 ∧ True) ∨ (dkN [(-1000015, -1000015)] r ∧ dkN [(0, 7)] p0 ∧ dkN [(0, 7)] p2 ∧ dkN [(5, 5)] (I1 340 4) ∧ (0 : Int) + 0 ≤ p0.toInt ∧ p0.toInt + 0 ≤ (7 : Int) ∧ (0 : Int) + 0 ≤ p2.toInt ∧ p2.toInt + 0 ≤ (7 : Int) ∧ (I0 341 (Int32.toNatClampNeg p0)).toInt ≠ (-1000000 : Int) ∧ (I0 341 (Int32.toNatClampNeg p2)).toInt ≠ (-1000000 : Int) ∧ (I0 341 (Int32.toNatClampNeg p0)).toInt ≠ (I0 341 (Int32.toNatClampNeg p2)).toInt ∧ ((-1000010 : Int32) - (5 : Int32)).toInt = (-1000010 : Int) - (5 : Int) ∧ r = (-1000010 : Int32) - (5 : Int32) ∧ I1 340 4 = 5 ∧ True) ∨ (dkN [(-1000011, -1000011)] r ∧ dkN [(0, 7)] p0 ∧ dkN [(0, 7)] p2 ∧ dkN [(1, 1)] (I1 340 4) ∧ (0 : Int) + 0 ≤ p0.toInt ∧ p0.toInt + 0 ≤ (7 : Int) ∧ (0 : Int) + 0 ≤ p2.toInt ∧ p2.toInt + 0 ≤ (7 : Int) ∧ (I0 341 (Int32.toNatClampNeg p0)).toInt ≠ (-1000000 : Int) ∧ (I0 341 (Int32.toNatClampNeg p2)).toInt = (-1000000 : Int) ∧ ((-1000010 : Int32) - (1 : Int32)).toInt = (-1000010 : Int) - (1 : Int) ∧ r = (-1000010 : Int32) - (1 : Int32) ∧ I1 340 4 = 1 ∧ True) ∨ (dkN [(-1000011, -1000011)] r ∧ dkN [(0, 7)] p0 ∧ dkN [(0, 7)] p2 ∧ dkN [(1, 1)] (I1 340 4) ∧ (0 : Int) + 0 ≤ p0.toInt ∧ p0.toInt + 0 ≤ (7 : Int) ∧ (0 : Int) + 0 ≤ p2.toInt ∧ p2.toInt + 0 ≤ (7 : Int) ∧ (I0 341 (Int32.toNatClampNeg p0)).toInt = (-1000000 : Int) ∧ ((-1000010 : Int32) - (1 : Int32)).toInt = (-1000010 : Int) - (1 : Int) ∧ r = (-1000010 : Int32) - (1 : Int32) ∧ I1 340 4 = 1 ∧ True) ∨ (True ∧ dkN [(0, 7)] p0 ∧ dkN [(0, 40)] p1 ∧ dkN [(0, 7)] p2 ∧ dkN [(0, 40)] p3 ∧ dkN [(0, 40)] p4 ∧ dkN [(0, 0)] (I1 340 4) ∧ (0 : Int) + 0 ≤ p0.toInt ∧ p0.toInt + 0 ≤ (7 : Int) ∧ (0 : Int) + 0 ≤ p2.toInt ∧ p2.toInt + 0 ≤ (7 : Int) ∧ (I0 341 (Int32.toNatClampNeg p0)).toInt ≠ (-1000000 : Int) ∧ (I0 341 (Int32.toNatClampNeg p2)).toInt ≠ (-1000000 : Int) ∧ (I0 341 (Int32.toNatClampNeg p0)).toInt = (I0 341 (Int32.toNatClampNeg p2)).toInt ∧ (0 : Int) + 0 ≤ p1.toInt ∧ (0 : Int) + 0 ≤ p4.toInt ∧ p1.toInt + 0 ≤ (I0 342 (Int32.toNatClampNeg p0)).toInt ∧ ((I0 342 (Int32.toNatClampNeg p0)) - p1).toInt = (I0 342 (Int32.toNatClampNeg p0)).toInt - p1.toInt ∧ p4.toInt + 0 ≤ ((I0 342 (Int32.toNatClampNeg p0)) - p1).toInt ∧ (0 : Int) + 0 ≤ p3.toInt ∧ p3.toInt + 0 ≤ (I0 342 (Int32.toNatClampNeg p2)).toInt ∧ ((I0 342 (Int32.toNatClampNeg p2)) - p3).toInt = (I0 342 (Int32.toNatClampNeg p2)).toInt - p3.toInt ∧ p4.toInt + 0 ≤ ((I0 342 (Int32.toNatClampNeg p2)) - p3).toInt ∧ r = p4 ∧ I1 340 4 = 0 ∧ True)))) 0 0 (dkA z) := by
  refine Met.ofW (cc := cX6_copy) (maxL := 7) (ret := (some .int)) (by decide) rfl ?_
  intro p e s m args below meth c s₁ B hml hv
  obtain ⟨ha, hW, hK, hT⟩ := hv
  have hx := B.exec
  have hb := B.bytes
  have hr := B.returns
  have hts := atoms_spec (ws := wsX6_copy) B.pre
  have hown : s.vm.findClass RX6 = some m.cls := findClass_of_methodNamed B.named
  have hlocks := B.notSynchronized
  have hS : va_S (dkA z) s.heap s.heap [] := va_S.rf
  have hF : dkF [(340, 340, 4, 4), (343, 343, 0, 359), (344, 344, 0, 39)] I0 I0 := dkF_rf _ _
  have hl := lv_entry ([.ref (z + 340), .int p0, .int p1, .int p2, .int p3, .int p4]) (n := 7) (Nat.le_of_ble_eq_true rfl)
  have hgo : entryFrame m args 7 = entryFrame m ([.ref (z + 340), .int p0, .int p1, .int p2, .int p3, .int p4] : List Value).toArray 7 := by rw [ha]
  rw [hgo, lg_entry_eq]
  generalize (lg_sl ([.ref (z + 340), .int p0, .int p1, .int p2, .int p3, .int p4]) ++ List.replicate (7 - (lg_sl ([.ref (z + 340), .int p0, .int p1, .int p2, .int p3, .int p4])).length) Slot.unset).toArray = ls at hl ⊢
  have hl : lv_has ls 7 [(0, .ref (z + 340)), (1, .int p0), (2, .int p1), (3, .int p2), (4, .int p3), (5, .int p4)] := hl
  have C129 : ∀ (n : Nat), ∀ (I : dkI) (H : Heap) (locs : List Loc) (ls : Array Slot) (x129_6 : Int32), (40 - x129_6.toInt).toNat < n → dkW g z I H → va_S (dkA z) s.heap H locs → dkF [(340, 340, 4, 4), (343, 343, 0, 359), (344, 344, 0, 39)] I0 I → dkOk I → dkN [(0, 40)] x129_6 → dkN [(0, 7)] p0 → dkN [(0, 40)] p1 → dkN [(0, 7)] p2 → dkN [(0, 40)] p3 → dkN [(0, 40)] p4 → p1.toInt + p4.toInt ≤ 40 → p3.toInt + p4.toInt ≤ 40 → (0 : Int) + 0 ≤ p0.toInt → p0.toInt + 0 ≤ (7 : Int) → (0 : Int) + 0 ≤ p2.toInt → p2.toInt + 0 ≤ (7 : Int) → (I0 341 (Int32.toNatClampNeg p0)).toInt ≠ (-1000000 : Int) → (I0 341 (Int32.toNatClampNeg p2)).toInt ≠ (-1000000 : Int) → (I0 341 (Int32.toNatClampNeg p0)).toInt = (I0 341 (Int32.toNatClampNeg p2)).toInt → (0 : Int) + 0 ≤ p1.toInt → (0 : Int) + 0 ≤ p4.toInt → p1.toInt + 0 ≤ (I0 342 (Int32.toNatClampNeg p0)).toInt → ((I0 342 (Int32.toNatClampNeg p0)) - p1).toInt = (I0 342 (Int32.toNatClampNeg p0)).toInt - p1.toInt → p4.toInt + 0 ≤ ((I0 342 (Int32.toNatClampNeg p0)) - p1).toInt → (0 : Int) + 0 ≤ p3.toInt → p3.toInt + 0 ≤ (I0 342 (Int32.toNatClampNeg p2)).toInt → ((I0 342 (Int32.toNatClampNeg p2)) - p3).toInt = (I0 342 (Int32.toNatClampNeg p2)).toInt - p3.toInt → p4.toInt + 0 ≤ ((I0 342 (Int32.toNatClampNeg p2)) - p3).toInt → lv_has ls 7 [(0, .ref (z + 340)), (1, .int p0), (2, .int p1), (3, .int p2), (4, .int p3), (5, .int p4), (6, .int x129_6)] → W p l e (headSpec wsX6_copy (dkR 2)).room s m args below meth c H locs 0 0 (MQ below (dkQi g z (fun r I1 => dkF [(340, 340, 4, 4), (343, 343, 0, 359), (344, 344, 0, 39)] I0 I1 ∧ dkOk I1 ∧ ((dkN [(-1000001, -1000001)] r ∧ dkN [(-2147483648, -1)] p0 ∧ p0.toInt + 1 ≤ (0 : Int) ∧ r = (-1000001) ∧ I1 340 4 = I0 340 4 ∧ True) ∨ (dkN [(-1000001, -1000001)] r ∧ dkN [(8, 2147483647)] p0 ∧ (0 : Int) + 0 ≤ p0.toInt ∧ (7 : Int) + 1 ≤ p0.toInt ∧ r = (-1000001) ∧ I1 340 4 = I0 340 4 ∧ True) ∨ (dkN [(-1000001, -1000001)] r ∧ dkN [(0, 7)] p0 ∧ dkN [(-2147483648, -1)] p2 ∧ (0 : Int) + 0 ≤ p0.toInt ∧ p0.toInt + 0 ≤ (7 : Int) ∧ p2.toInt + 1 ≤ (0 : Int) ∧ r = (-1000001) ∧ I1 340 4 = I0 340 4 ∧ True) ∨ (dkN [(-1000001, -1000001)] r ∧ dkN [(0, 7)] p0 ∧ dkN [(8, 2147483647)] p2 ∧ (0 : Int) + 0 ≤ p0.toInt ∧ p0.toInt + 0 ≤ (7 : Int) ∧ (0 : Int) + 0 ≤ p2.toInt ∧ (7 : Int) + 1 ≤ p2.toInt ∧ r = (-1000001) ∧ I1 340 4 = I0 340 4 ∧ True) ∨ (dkN [(-1000012, -1000012)] r ∧ dkN [(0, 7)] p0 ∧ dkN [(-2147483648, -1)] p1 ∧ dkN [(0, 7)] p2 ∧ dkN [(2, 2)] (I1 340 4) ∧ (0 : Int) + 0 ≤ p0.toInt ∧ p0.toInt + 0 ≤ (7 : Int) ∧ (0 : Int) + 0 ≤ p2.toInt ∧ p2.toInt + 0 ≤ (7 : Int) ∧ (I0 341 (Int32.toNatClampNeg p0)).toInt ≠ (-1000000 : Int) ∧ (I0 341 (Int32.toNatClampNeg p2)).toInt ≠ (-1000000 : Int) ∧ (I0 341 (Int32.toNatClampNeg p0)).toInt = (I0 341 (Int32.toNatClampNeg p2)).toInt ∧ p1.toInt + 1 ≤ (0 : Int) ∧ ((-1000010 : Int32) - (2 : Int32)).toInt = (-1000010 : Int) - (2 : Int) ∧ r = (-1000010 : Int32) - (2 : Int32) ∧ I1 340 4 = 2 ∧ True) ∨ (dkN [(-1000012, -1000012)] r ∧ dkN [(0, 7)] p0 ∧ dkN [(0, 2147483647)] p1 ∧ dkN [(0, 7)] p2 ∧ dkN [(-2147483648, -1)] p4 ∧ dkN [(2, 2)] (I1 340 4) ∧ (0 : Int) + 0 ≤ p0.toInt ∧ p0.toInt + 0 ≤ (7 : Int) ∧ (0 : Int) + 0 ≤ p2.toInt ∧ p2.toInt + 0 ≤ (7 : Int) ∧ (I0 341 (Int32.toNatClampNeg p0)).toInt ≠ (-1000000 : Int) ∧ (I0 341 (Int32.toNatClampNeg p2)).toInt ≠ (-1000000 : Int) ∧ (I0 341 (Int32.toNatClampNeg p0)).toInt = (I0 341 (Int32.toNatClampNeg p2)).toInt ∧ (0 : Int) + 0 ≤ p1.toInt ∧ p4.toInt + 1 ≤ (0 : Int) ∧ ((-1000010 : Int32) - (2 : Int32)).toInt = (-1000010 : Int) - (2 : Int) ∧ r = (-1000010 : Int32) - (2 : Int32) ∧ I1 340 4 = 2 ∧ True) ∨ (dkN [(-1000012, -1000012)] r ∧ dkN [(0, 7)] p0 ∧ dkN [(1, 2147483647)] p1 ∧ dkN [(0, 7)] p2 ∧ dkN [(0, 2147483647)] p4 ∧ dkN [(2, 2)] (I1 340 4) ∧ (0 : Int) + 0 ≤ p0.toInt ∧ p0.toInt + 0 ≤ (7 : Int) ∧ (0 : Int) + 0 ≤ p2.toInt ∧ p2.toInt + 0 ≤ (7 : Int) ∧ (I0 341 (Int32.toNatClampNeg p0)).toInt ≠ (-1000000 : Int) ∧ (I0 341 (Int32.toNatClampNeg p2)).toInt ≠ (-1000000 : Int) ∧ (I0 341 (Int32.toNatClampNeg p0)).toInt = (I0 341 (Int32.toNatClampNeg p2)).toInt ∧ (0 : Int) + 0 ≤ p1.toInt ∧ (0 : Int) + 0 ≤ p4.toInt ∧ (I0 342 (Int32.toNatClampNeg p0)).toInt + 1 ≤ p1.toInt ∧ ((-1000010 : Int32) - (2 : Int32)).toInt = (-1000010 : Int) - (2 : Int) ∧ r = (-1000010 : Int32) - (2 : Int32) ∧ I1 340 4 = 2 ∧ True) ∨ (dkN [(-1000012, -1000012)] r ∧ dkN [(0, 7)] p0 ∧ dkN [(0, 40)] p1 ∧ dkN [(0, 7)] p2 ∧ dkN [(0, 2147483647)] p4 ∧ dkN [(2, 2)] (I1 340 4) ∧ (0 : Int) + 0 ≤ p0.toInt ∧ p0.toInt + 0 ≤ (7 : Int) ∧ (0 : Int) + 0 ≤ p2.toInt ∧ p2.toInt + 0 ≤ (7 : Int) ∧ (I0 341 (Int32.toNatClampNeg p0)).toInt ≠ (-1000000 : Int) ∧ (I0 341 (Int32.toNatClampNeg p2)).toInt ≠ (-1000000 : Int) ∧ (I0 341 (Int32.toNatClampNeg p0)).toInt = (I0 341 (Int32.toNatClampNeg p2)).toInt ∧ (0 : Int) + 0 ≤ p1.toInt ∧ (0 : Int) + 0 ≤ p4.toInt ∧ p1.toInt + 0 ≤ (I0 342 (Int32.toNatClampNeg p0)).toInt ∧ ((I0 342 (Int32.toNatClampNeg p0)) - p1).toInt = (I0 342 (Int32.toNatClampNeg p0)).toInt - p1.toInt ∧ ((I0 342 (Int32.toNatClampNeg p0)) - p1).toInt + 1 ≤ p4.toInt ∧ ((-1000010 : Int32) - (2 : Int32)).toInt = (-1000010 : Int) - (2 : Int) ∧ r = (-1000010 : Int32) - (2 : Int32) ∧ I1 340 4 = 2 ∧ True) ∨ (dkN [(-1000012, -1000012)] r ∧ dkN [(0, 7)] p0 ∧ dkN [(0, 40)] p1 ∧ dkN [(0, 7)] p2 ∧ dkN [(-2147483648, -1)] p3 ∧ dkN [(0, 40)] p4 ∧ dkN [(2, 2)] (I1 340 4) ∧ (0 : Int) + 0 ≤ p0.toInt ∧ p0.toInt + 0 ≤ (7 : Int) ∧ (0 : Int) + 0 ≤ p2.toInt ∧ p2.toInt + 0 ≤ (7 : Int) ∧ (I0 341 (Int32.toNatClampNeg p0)).toInt ≠ (-1000000 : Int) ∧ (I0 341 (Int32.toNatClampNeg p2)).toInt ≠ (-1000000 : Int) ∧ (I0 341 (Int32.toNatClampNeg p0)).toInt = (I0 341 (Int32.toNatClampNeg p2)).toInt ∧ (0 : Int) + 0 ≤ p1.toInt ∧ (0 : Int) + 0 ≤ p4.toInt ∧ p1.toInt + 0 ≤ (I0 342 (Int32.toNatClampNeg p0)).toInt ∧ ((I0 342 (Int32.toNatClampNeg p0)) - p1).toInt = (I0 342 (Int32.toNatClampNeg p0)).toInt - p1.toInt ∧ p4.toInt + 0 ≤ ((I0 342 (Int32.toNatClampNeg p0)) - p1).toInt ∧ p3.toInt + 1 ≤ (0 : Int) ∧ ((-1000010 : Int32) - (2 : Int32)).toInt = (-1000010 : Int) - (2 : Int) ∧ r = (-1000010 : Int32) - (2 : Int32) ∧ I1 340 4 = 2 ∧ True) ∨ (dkN [(-1000012, -1000012)] r ∧ dkN [(0, 7)] p0 ∧ dkN [(0, 40)] p1 ∧ dkN [(0, 7)] p2 ∧ dkN [(1, 2147483647)] p3 ∧ dkN [(0, 40)] p4 ∧ dkN [(2, 2)] (I1 340 4) ∧ (0 : Int) + 0 ≤ p0.toInt ∧ p0.toInt + 0 ≤ (7 : Int) ∧ (0 : Int) + 0 ≤ p2.toInt ∧ p2.toInt + 0 ≤ (7 : Int) ∧ (I0 341 (Int32.toNatClampNeg p0)).toInt ≠ (-1000000 : Int) ∧ (I0 341 (Int32.toNatClampNeg p2)).toInt ≠ (-1000000 : Int) ∧ (I0 341 (Int32.toNatClampNeg p0)).toInt = (I0 341 (Int32.toNatClampNeg p2)).toInt ∧ (0 : Int) + 0 ≤ p1.toInt ∧ (0 : Int) + 0 ≤ p4.toInt ∧ p1.toInt + 0 ≤ (I0 342 (Int32.toNatClampNeg p0)).toInt ∧ ((I0 342 (Int32.toNatClampNeg p0)) - p1).toInt = (I0 342 (Int32.toNatClampNeg p0)).toInt - p1.toInt ∧ p4.toInt + 0 ≤ ((I0 342 (Int32.toNatClampNeg p0)) - p1).toInt ∧ (0 : Int) + 0 ≤ p3.toInt ∧ (I0 342 (Int32.toNatClampNeg p2)).toInt + 1 ≤ p3.toInt ∧ ((-1000010 : Int32) - (2 : Int32)).toInt = (-1000010 : Int) - (2 : Int) ∧ r = (-1000010 : Int32) - (2 : Int32) ∧ I1 340 4 = 2 ∧ True) ∨ (dkN [(-1000012, -1000012)] r ∧ dkN [(0, 7)] p0 ∧ dkN [(0, 40)] p1 ∧ dkN [(0, 7)] p2 ∧ dkN [(0, 40)] p3 ∧ dkN [(0, 40)] p4 ∧ dkN [(2, 2)] (I1 340 4) ∧ (0 : Int) + 0 ≤ p0.toInt ∧ p0.toInt + 0 ≤ (7 : Int) ∧ (0 : Int) + 0 ≤ p2.toInt ∧ p2.toInt + 0 ≤ (7 : Int) ∧ (I0 341 (Int32.toNatClampNeg p0)).toInt ≠ (-1000000 : Int) ∧ (I0 341 (Int32.toNatClampNeg p2)).toInt ≠ (-1000000 : Int) ∧ (I0 341 (Int32.toNatClampNeg p0)).toInt = (I0 341 (Int32.toNatClampNeg p2)).toInt ∧ (0 : Int) + 0 ≤ p1.toInt ∧ (0 : Int) + 0 ≤ p4.toInt ∧ p1.toInt + 0 ≤ (I0 342 (Int32.toNatClampNeg p0)).toInt ∧ ((I0 342 (Int32.toNatClampNeg p0)) - p1).toInt = (I0 342 (Int32.toNatClampNeg p0)).toInt - p1.toInt ∧ p4.toInt + 0 ≤ ((I0 342 (Int32.toNatClampNeg p0)) - p1).toInt ∧ (0 : Int) + 0 ≤ p3.toInt ∧ p3.toInt + 0 ≤ (I0 342 (Int32.toNatClampNeg p2)).toInt ∧ ((I0 342 (Int32.toNatClampNeg p2)) - p3).toInt = (I0 342 (Int32.toNatClampNeg p2)).toInt - p3.toInt ∧ ((I0 342 (Int32.toNatClampNeg p2)) - p3).toInt + 1 ≤ p4.toInt ∧ ((-1000010 : Int32) - (2 : Int32)).toInt = (-1000010 : Int) - (2 : Int) ∧ r = (-1000010 : Int32) - (2 : Int32) ∧ I1 340 4 = 2 ∧ True) ∨ (dkN [(-1000015, -1000015)] r ∧ dkN [(0, 7)] p0 ∧ dkN [(0, 7)] p2 ∧ dkN [(5, 5)] (I1 340 4) ∧ (0 : Int) + 0 ≤ p0.toInt ∧ p0.toInt + 0 ≤ (7 : Int) ∧ (0 : Int) + 0 ≤ p2.toInt ∧ p2.toInt + 0 ≤ (7 : Int) ∧ (I0 341 (Int32.toNatClampNeg p0)).toInt ≠ (-1000000 : Int) ∧ (I0 341 (Int32.toNatClampNeg p2)).toInt ≠ (-1000000 : Int) ∧ (I0 341 (Int32.toNatClampNeg p0)).toInt ≠ (I0 341 (Int32.toNatClampNeg p2)).toInt ∧ ((-1000010 : Int32) - (5 : Int32)).toInt = (-1000010 : Int) - (5 : Int) ∧ r = (-1000010 : Int32) - (5 : Int32) ∧ I1 340 4 = 5 ∧ True) ∨ (dkN [(-1000011, -1000011)] r ∧ dkN [(0, 7)] p0 ∧ dkN [(0, 7)] p2 ∧ dkN [(1, 1)] (I1 340 4) ∧ (0 : Int) + 0 ≤ p0.toInt ∧ p0.toInt + 0 ≤ (7 : Int) ∧ (0 : Int) + 0 ≤ p2.toInt ∧ p2.toInt + 0 ≤ (7 : Int) ∧ (I0 341 (Int32.toNatClampNeg p0)).toInt ≠ (-1000000 : Int) ∧ (I0 341 (Int32.toNatClampNeg p2)).toInt = (-1000000 : Int) ∧ ((-1000010 : Int32) - (1 : Int32)).toInt = (-1000010 : Int) - (1 : Int) ∧ r = (-1000010 : Int32) - (1 : Int32) ∧ I1 340 4 = 1 ∧ True) ∨ (dkN [(-1000011, -1000011)] r ∧ dkN [(0, 7)] p0 ∧ dkN [(0, 7)] p2 ∧ dkN [(1, 1)] (I1 340 4) ∧ (0 : Int) + 0 ≤ p0.toInt ∧ p0.toInt + 0 ≤ (7 : Int) ∧ (0 : Int) + 0 ≤ p2.toInt ∧ p2.toInt + 0 ≤ (7 : Int) ∧ (I0 341 (Int32.toNatClampNeg p0)).toInt = (-1000000 : Int) ∧ ((-1000010 : Int32) - (1 : Int32)).toInt = (-1000010 : Int) - (1 : Int) ∧ r = (-1000010 : Int32) - (1 : Int32) ∧ I1 340 4 = 1 ∧ True) ∨ (True ∧ dkN [(0, 7)] p0 ∧ dkN [(0, 40)] p1 ∧ dkN [(0, 7)] p2 ∧ dkN [(0, 40)] p3 ∧ dkN [(0, 40)] p4 ∧ dkN [(0, 0)] (I1 340 4) ∧ (0 : Int) + 0 ≤ p0.toInt ∧ p0.toInt + 0 ≤ (7 : Int) ∧ (0 : Int) + 0 ≤ p2.toInt ∧ p2.toInt + 0 ≤ (7 : Int) ∧ (I0 341 (Int32.toNatClampNeg p0)).toInt ≠ (-1000000 : Int) ∧ (I0 341 (Int32.toNatClampNeg p2)).toInt ≠ (-1000000 : Int) ∧ (I0 341 (Int32.toNatClampNeg p0)).toInt = (I0 341 (Int32.toNatClampNeg p2)).toInt ∧ (0 : Int) + 0 ≤ p1.toInt ∧ (0 : Int) + 0 ≤ p4.toInt ∧ p1.toInt + 0 ≤ (I0 342 (Int32.toNatClampNeg p0)).toInt ∧ ((I0 342 (Int32.toNatClampNeg p0)) - p1).toInt = (I0 342 (Int32.toNatClampNeg p0)).toInt - p1.toInt ∧ p4.toInt + 0 ≤ ((I0 342 (Int32.toNatClampNeg p0)) - p1).toInt ∧ (0 : Int) + 0 ≤ p3.toInt ∧ p3.toInt + 0 ≤ (I0 342 (Int32.toNatClampNeg p2)).toInt ∧ ((I0 342 (Int32.toNatClampNeg p2)) - p3).toInt = (I0 342 (Int32.toNatClampNeg p2)).toInt - p3.toInt ∧ p4.toInt + 0 ≤ ((I0 342 (Int32.toNatClampNeg p2)) - p3).toInt ∧ r = p4 ∧ I1 340 4 = 0 ∧ True)))) args s 0 0 (dkA z)) (F0 m 129 ls []) := by
    intro n
    induction n with
    | zero => intro I H locs ls x129_6 hn; exact absurd hn (Nat.not_lt_zero _)
    | succ n ih129 =>
      intro I129_ H locs ls x129_6 hn129 hW hS hF_129 hO k129_0 r129_0 r129_1 r129_2 r129_3 r129_4 q129_0 q129_1 y129_0 y129_1 y129_2 y129_3 y129_4 y129_5 y129_6 y129_7 y129_8 y129_9 y129_10 y129_11 y129_12 y129_13 y129_14 y129_15 hl
      have hF := hF_129
      refine lv_iload hx hb dX6_copy_129 (lv_at hl 6 rfl) ?_
      refine lv_iload hx hb dX6_copy_131 (lv_at hl 5 rfl) ?_
      refine lv_icmp_ge (tgt := 164) hx hb dX6_copy_133 (by decide) (fun c1 => ?_) (fun c1 => ?_)
      ·
        refine lv_aload_n hx hb dX6_copy_164 rfl (lv_at hl 0 rfl) ?_
        refine lv_iload hx hb dX6_copy_165 (lv_at hl 5 rfl) ?_
        refine dk_Vi (As := [.int p4]) (rest := []) ⟨hx, hb, hml, hown, hts⟩ (fx_X6_well_1 l g z I129_ p4 hO) (cwV 1 hts gX6_copy_X6_well rfl rfl rfl (by decide +kernel) ⟨Nat.le_of_ble_eq_true rfl, Nat.le_of_ble_eq_true rfl⟩) (dk_at340 hW) rfl hK hT hW hS rfl hl.1 rfl (Nat.le_of_ble_eq_true rfl) dX6_copy_167 ⟨Nat.zero_le _, Nat.zero_le _⟩ (fun v2 I2 H2 L2 hp2 hW hS => ?_)
        obtain ⟨hF2, hO, hc2⟩ := hp2
        have hF := dkF_call hF hF2 rfl
        obtain ⟨_, f2_340_4, xr2, xh2_0, -⟩ := hc2
        have y3 : I2 340 4 = 0 := by have h := xh2_0; exact h
        have xv2 : v2 = p4 := by have h := xr2; exact h
        exact W.iret (v := v2) hx hb hr (fun t ht hW9 => ⟨⟨v2, I2, rfl, ⟨hF, hO, Or.inr (Or.inr (Or.inr (Or.inr (Or.inr (Or.inr (Or.inr (Or.inr (Or.inr (Or.inr (Or.inr (Or.inr (Or.inr (Or.inr (⟨trivial, dkN_sub r129_0 rfl, dkN_sub r129_1 rfl, dkN_sub r129_2 rfl, dkN_sub r129_3 rfl, dkN_sub r129_4 rfl, (show dkN [(0, 0)] (I2 340 4) from dkN_sub f2_340_4 rfl), y129_0, y129_1, y129_2, y129_3, y129_4, y129_5, y129_6, y129_7, y129_8, y129_9, y129_10, y129_11, y129_12, y129_13, y129_14, y129_15, xv2, y3, trivial⟩))))))))))))))⟩, dkW_eq ht hW⟩, hS.F ht⟩) hS.2.2 dX6_copy_170
      ·
        have d4 : dkN [(1, 40)] p4 := dkN_le2 1 k129_0 r129_4 (dkc_nle c1) rfl
        have d5 : dkN [(0, 39)] x129_6 := dkN_le1 1 k129_0 r129_4 (dkc_nle c1) rfl
        refine lv_aload_n hx hb dX6_copy_136 rfl (lv_at hl 0 rfl) ?_
        refine dk_get (k := 340) hx hb hts iX6_copy_6 hown hK (dk_at340 hW) rfl 2 (by decide) (hts (.fieldLink RX6 16 "DogKingsModel" "items" "[I") (List.mem_of_getElem? (i := 4) rfl)) rfl dX6_copy_137 ?_
        refine lv_bipush (v := 40) hx hb dX6_copy_140 (by decide) ?_
        refine lv_iload_n hx hb dX6_copy_142 rfl (lv_at hl 3 rfl) ?_
        refine lv_imul hx hb dX6_copy_143 ?_
        refine lv_topi (fun v6 ev6 => ?_)
        have dv6 : dkN [(0, 280)] v6 := by rw [ev6]; exact dkN_mulL 40 (by decide) (dkN_lit (x := 40) (40) rfl) r129_2 rfl
        have xv6 : v6 = (40 : Int32) * p2 := by rw [ev6]
        have q7 : ((40 : Int32) * p2).toInt = (40 : Int) * p2.toInt := by first | (rw [← xv6]; exact (by rw [ev6]; exact dk_mulE 40 (x := 40) rfl r129_2 (by decide) rfl)) | (subst xv6; exact (by rw [ev6]; exact dk_mulE 40 (x := 40) rfl r129_2 (by decide) rfl))
        refine lv_iload hx hb dX6_copy_144 (lv_at hl 4 rfl) ?_
        refine lv_iadd hx hb dX6_copy_146 ?_
        refine lv_topi (fun v8 ev8 => ?_)
        have dv8 : dkN [(0, 320)] v8 := by rw [ev8]; exact dkN_add dv6 r129_3 rfl
        have xv8 : v8 = ((40 : Int32) * p2) + p3 := by rw [ev8, xv6]
        have q9 : (((40 : Int32) * p2) + p3).toInt = ((40 : Int32) * p2).toInt + p3.toInt := by first | (rw [← xv8, ← xv6]; exact (by rw [ev8]; exact dk_addE dv6 r129_3 rfl)) | (subst xv8 xv6; exact (by rw [ev8]; exact dk_addE dv6 r129_3 rfl))
        refine lv_iload hx hb dX6_copy_147 (lv_at hl 6 rfl) ?_
        refine lv_iadd hx hb dX6_copy_149 ?_
        refine lv_topi (fun v10 ev10 => ?_)
        have dv10 : dkN [(0, 359)] v10 := by rw [ev10]; exact dkN_add dv8 d5 rfl
        refine lv_aload_n hx hb dX6_copy_150 rfl (lv_at hl 0 rfl) ?_
        refine dk_get (k := 340) hx hb hts iX6_copy_6 hown hK (dk_at340 hW) rfl 3 (by decide) (hts (.fieldLink RX6 19 "DogKingsModel" "spare" "[I") (List.mem_of_getElem? (i := 3) rfl)) rfl dX6_copy_151 ?_
        refine lv_iload hx hb dX6_copy_154 (lv_at hl 6 rfl) ?_
        refine dk_ild (k := 344) hx hb hK (dk_at344 hW) (dkN_in (n := 40) d5 rfl) dX6_copy_156 ?_
        refine lv_topi (fun v11 ev11 => ?_)
        refine dk_ist (k := 343) hx hb hK hW (fun _ => rfl) (by decide) hS (dk_in320 ev6 ev8 ev10 r129_2 r129_3 d5 (dkc_nle c1) q129_1 rfl) dX6_copy_157 (fun I12 H12 L12 eI12 hW hS => ?_)
        have hO := dkO_set hO eI12 (dkN_sub (dkN_top v11) rfl)
        have hF := dkF_set hF eI12 (dkIn_v dv10 rfl)
        obtain ⟨v13, ev13⟩ : ∃ y : Int32, y = x129_6 + 1 := ⟨_, rfl⟩
        have dv13 : dkN [(1, 40)] v13 := by rw [ev13]; exact dkN_add d5 (dkN_lit (x := 1) (1) rfl) rfl
        refine lv_iinc (v := v13) (lv' := [(6, .int v13), (0, .ref (z + 340)), (1, .int p0), (2, .int p1), (3, .int p2), (4, .int p3), (5, .int p4)]) hx hb dX6_copy_158 hl (k := 6) rfl (by rw [ev13]; rfl) (by decide) rfl (fun ls hl => ?_)
        refine lv_goto (tgt := 129) hx hb dX6_copy_161 (by decide) ?_
        exact ih129 I12 _ _ ls v13 (dk_near hn129 (by rw [ev13]; exact dk_inc d5 rfl) (dkN_lt d5 rfl)) hW hS hF hO (dkN_sub dv13 rfl) (dkN_sub r129_0 rfl) (dkN_sub r129_1 rfl) (dkN_sub r129_2 rfl) (dkN_sub r129_3 rfl) (dkN_sub d4 rfl) q129_0 q129_1 y129_0 y129_1 y129_2 y129_3 y129_4 y129_5 y129_6 y129_7 y129_8 y129_9 y129_10 y129_11 y129_12 y129_13 y129_14 y129_15 (lv_sub hl [1, 2, 3, 4, 5, 6, 0] rfl)
  have C92 : ∀ (n : Nat), ∀ (I : dkI) (H : Heap) (locs : List Loc) (ls : Array Slot) (x92_6 : Int32), (40 - x92_6.toInt).toNat < n → dkW g z I H → va_S (dkA z) s.heap H locs → dkF [(340, 340, 4, 4), (343, 343, 0, 359), (344, 344, 0, 39)] I0 I → dkOk I → dkN [(0, 40)] x92_6 → dkN [(0, 7)] p0 → dkN [(0, 40)] p1 → dkN [(0, 7)] p2 → dkN [(0, 40)] p3 → dkN [(0, 40)] p4 → p1.toInt + p4.toInt ≤ 40 → p3.toInt + p4.toInt ≤ 40 → (0 : Int) + 0 ≤ p0.toInt → p0.toInt + 0 ≤ (7 : Int) → (0 : Int) + 0 ≤ p2.toInt → p2.toInt + 0 ≤ (7 : Int) → (I0 341 (Int32.toNatClampNeg p0)).toInt ≠ (-1000000 : Int) → (I0 341 (Int32.toNatClampNeg p2)).toInt ≠ (-1000000 : Int) → (I0 341 (Int32.toNatClampNeg p0)).toInt = (I0 341 (Int32.toNatClampNeg p2)).toInt → (0 : Int) + 0 ≤ p1.toInt → (0 : Int) + 0 ≤ p4.toInt → p1.toInt + 0 ≤ (I0 342 (Int32.toNatClampNeg p0)).toInt → ((I0 342 (Int32.toNatClampNeg p0)) - p1).toInt = (I0 342 (Int32.toNatClampNeg p0)).toInt - p1.toInt → p4.toInt + 0 ≤ ((I0 342 (Int32.toNatClampNeg p0)) - p1).toInt → (0 : Int) + 0 ≤ p3.toInt → p3.toInt + 0 ≤ (I0 342 (Int32.toNatClampNeg p2)).toInt → ((I0 342 (Int32.toNatClampNeg p2)) - p3).toInt = (I0 342 (Int32.toNatClampNeg p2)).toInt - p3.toInt → p4.toInt + 0 ≤ ((I0 342 (Int32.toNatClampNeg p2)) - p3).toInt → lv_has ls 7 [(0, .ref (z + 340)), (1, .int p0), (2, .int p1), (3, .int p2), (4, .int p3), (5, .int p4), (6, .int x92_6)] → W p l e (headSpec wsX6_copy (dkR 2)).room s m args below meth c H locs 0 0 (MQ below (dkQi g z (fun r I1 => dkF [(340, 340, 4, 4), (343, 343, 0, 359), (344, 344, 0, 39)] I0 I1 ∧ dkOk I1 ∧ ((dkN [(-1000001, -1000001)] r ∧ dkN [(-2147483648, -1)] p0 ∧ p0.toInt + 1 ≤ (0 : Int) ∧ r = (-1000001) ∧ I1 340 4 = I0 340 4 ∧ True) ∨ (dkN [(-1000001, -1000001)] r ∧ dkN [(8, 2147483647)] p0 ∧ (0 : Int) + 0 ≤ p0.toInt ∧ (7 : Int) + 1 ≤ p0.toInt ∧ r = (-1000001) ∧ I1 340 4 = I0 340 4 ∧ True) ∨ (dkN [(-1000001, -1000001)] r ∧ dkN [(0, 7)] p0 ∧ dkN [(-2147483648, -1)] p2 ∧ (0 : Int) + 0 ≤ p0.toInt ∧ p0.toInt + 0 ≤ (7 : Int) ∧ p2.toInt + 1 ≤ (0 : Int) ∧ r = (-1000001) ∧ I1 340 4 = I0 340 4 ∧ True) ∨ (dkN [(-1000001, -1000001)] r ∧ dkN [(0, 7)] p0 ∧ dkN [(8, 2147483647)] p2 ∧ (0 : Int) + 0 ≤ p0.toInt ∧ p0.toInt + 0 ≤ (7 : Int) ∧ (0 : Int) + 0 ≤ p2.toInt ∧ (7 : Int) + 1 ≤ p2.toInt ∧ r = (-1000001) ∧ I1 340 4 = I0 340 4 ∧ True) ∨ (dkN [(-1000012, -1000012)] r ∧ dkN [(0, 7)] p0 ∧ dkN [(-2147483648, -1)] p1 ∧ dkN [(0, 7)] p2 ∧ dkN [(2, 2)] (I1 340 4) ∧ (0 : Int) + 0 ≤ p0.toInt ∧ p0.toInt + 0 ≤ (7 : Int) ∧ (0 : Int) + 0 ≤ p2.toInt ∧ p2.toInt + 0 ≤ (7 : Int) ∧ (I0 341 (Int32.toNatClampNeg p0)).toInt ≠ (-1000000 : Int) ∧ (I0 341 (Int32.toNatClampNeg p2)).toInt ≠ (-1000000 : Int) ∧ (I0 341 (Int32.toNatClampNeg p0)).toInt = (I0 341 (Int32.toNatClampNeg p2)).toInt ∧ p1.toInt + 1 ≤ (0 : Int) ∧ ((-1000010 : Int32) - (2 : Int32)).toInt = (-1000010 : Int) - (2 : Int) ∧ r = (-1000010 : Int32) - (2 : Int32) ∧ I1 340 4 = 2 ∧ True) ∨ (dkN [(-1000012, -1000012)] r ∧ dkN [(0, 7)] p0 ∧ dkN [(0, 2147483647)] p1 ∧ dkN [(0, 7)] p2 ∧ dkN [(-2147483648, -1)] p4 ∧ dkN [(2, 2)] (I1 340 4) ∧ (0 : Int) + 0 ≤ p0.toInt ∧ p0.toInt + 0 ≤ (7 : Int) ∧ (0 : Int) + 0 ≤ p2.toInt ∧ p2.toInt + 0 ≤ (7 : Int) ∧ (I0 341 (Int32.toNatClampNeg p0)).toInt ≠ (-1000000 : Int) ∧ (I0 341 (Int32.toNatClampNeg p2)).toInt ≠ (-1000000 : Int) ∧ (I0 341 (Int32.toNatClampNeg p0)).toInt = (I0 341 (Int32.toNatClampNeg p2)).toInt ∧ (0 : Int) + 0 ≤ p1.toInt ∧ p4.toInt + 1 ≤ (0 : Int) ∧ ((-1000010 : Int32) - (2 : Int32)).toInt = (-1000010 : Int) - (2 : Int) ∧ r = (-1000010 : Int32) - (2 : Int32) ∧ I1 340 4 = 2 ∧ True) ∨ (dkN [(-1000012, -1000012)] r ∧ dkN [(0, 7)] p0 ∧ dkN [(1, 2147483647)] p1 ∧ dkN [(0, 7)] p2 ∧ dkN [(0, 2147483647)] p4 ∧ dkN [(2, 2)] (I1 340 4) ∧ (0 : Int) + 0 ≤ p0.toInt ∧ p0.toInt + 0 ≤ (7 : Int) ∧ (0 : Int) + 0 ≤ p2.toInt ∧ p2.toInt + 0 ≤ (7 : Int) ∧ (I0 341 (Int32.toNatClampNeg p0)).toInt ≠ (-1000000 : Int) ∧ (I0 341 (Int32.toNatClampNeg p2)).toInt ≠ (-1000000 : Int) ∧ (I0 341 (Int32.toNatClampNeg p0)).toInt = (I0 341 (Int32.toNatClampNeg p2)).toInt ∧ (0 : Int) + 0 ≤ p1.toInt ∧ (0 : Int) + 0 ≤ p4.toInt ∧ (I0 342 (Int32.toNatClampNeg p0)).toInt + 1 ≤ p1.toInt ∧ ((-1000010 : Int32) - (2 : Int32)).toInt = (-1000010 : Int) - (2 : Int) ∧ r = (-1000010 : Int32) - (2 : Int32) ∧ I1 340 4 = 2 ∧ True) ∨ (dkN [(-1000012, -1000012)] r ∧ dkN [(0, 7)] p0 ∧ dkN [(0, 40)] p1 ∧ dkN [(0, 7)] p2 ∧ dkN [(0, 2147483647)] p4 ∧ dkN [(2, 2)] (I1 340 4) ∧ (0 : Int) + 0 ≤ p0.toInt ∧ p0.toInt + 0 ≤ (7 : Int) ∧ (0 : Int) + 0 ≤ p2.toInt ∧ p2.toInt + 0 ≤ (7 : Int) ∧ (I0 341 (Int32.toNatClampNeg p0)).toInt ≠ (-1000000 : Int) ∧ (I0 341 (Int32.toNatClampNeg p2)).toInt ≠ (-1000000 : Int) ∧ (I0 341 (Int32.toNatClampNeg p0)).toInt = (I0 341 (Int32.toNatClampNeg p2)).toInt ∧ (0 : Int) + 0 ≤ p1.toInt ∧ (0 : Int) + 0 ≤ p4.toInt ∧ p1.toInt + 0 ≤ (I0 342 (Int32.toNatClampNeg p0)).toInt ∧ ((I0 342 (Int32.toNatClampNeg p0)) - p1).toInt = (I0 342 (Int32.toNatClampNeg p0)).toInt - p1.toInt ∧ ((I0 342 (Int32.toNatClampNeg p0)) - p1).toInt + 1 ≤ p4.toInt ∧ ((-1000010 : Int32) - (2 : Int32)).toInt = (-1000010 : Int) - (2 : Int) ∧ r = (-1000010 : Int32) - (2 : Int32) ∧ I1 340 4 = 2 ∧ True) ∨ (dkN [(-1000012, -1000012)] r ∧ dkN [(0, 7)] p0 ∧ dkN [(0, 40)] p1 ∧ dkN [(0, 7)] p2 ∧ dkN [(-2147483648, -1)] p3 ∧ dkN [(0, 40)] p4 ∧ dkN [(2, 2)] (I1 340 4) ∧ (0 : Int) + 0 ≤ p0.toInt ∧ p0.toInt + 0 ≤ (7 : Int) ∧ (0 : Int) + 0 ≤ p2.toInt ∧ p2.toInt + 0 ≤ (7 : Int) ∧ (I0 341 (Int32.toNatClampNeg p0)).toInt ≠ (-1000000 : Int) ∧ (I0 341 (Int32.toNatClampNeg p2)).toInt ≠ (-1000000 : Int) ∧ (I0 341 (Int32.toNatClampNeg p0)).toInt = (I0 341 (Int32.toNatClampNeg p2)).toInt ∧ (0 : Int) + 0 ≤ p1.toInt ∧ (0 : Int) + 0 ≤ p4.toInt ∧ p1.toInt + 0 ≤ (I0 342 (Int32.toNatClampNeg p0)).toInt ∧ ((I0 342 (Int32.toNatClampNeg p0)) - p1).toInt = (I0 342 (Int32.toNatClampNeg p0)).toInt - p1.toInt ∧ p4.toInt + 0 ≤ ((I0 342 (Int32.toNatClampNeg p0)) - p1).toInt ∧ p3.toInt + 1 ≤ (0 : Int) ∧ ((-1000010 : Int32) - (2 : Int32)).toInt = (-1000010 : Int) - (2 : Int) ∧ r = (-1000010 : Int32) - (2 : Int32) ∧ I1 340 4 = 2 ∧ True) ∨ (dkN [(-1000012, -1000012)] r ∧ dkN [(0, 7)] p0 ∧ dkN [(0, 40)] p1 ∧ dkN [(0, 7)] p2 ∧ dkN [(1, 2147483647)] p3 ∧ dkN [(0, 40)] p4 ∧ dkN [(2, 2)] (I1 340 4) ∧ (0 : Int) + 0 ≤ p0.toInt ∧ p0.toInt + 0 ≤ (7 : Int) ∧ (0 : Int) + 0 ≤ p2.toInt ∧ p2.toInt + 0 ≤ (7 : Int) ∧ (I0 341 (Int32.toNatClampNeg p0)).toInt ≠ (-1000000 : Int) ∧ (I0 341 (Int32.toNatClampNeg p2)).toInt ≠ (-1000000 : Int) ∧ (I0 341 (Int32.toNatClampNeg p0)).toInt = (I0 341 (Int32.toNatClampNeg p2)).toInt ∧ (0 : Int) + 0 ≤ p1.toInt ∧ (0 : Int) + 0 ≤ p4.toInt ∧ p1.toInt + 0 ≤ (I0 342 (Int32.toNatClampNeg p0)).toInt ∧ ((I0 342 (Int32.toNatClampNeg p0)) - p1).toInt = (I0 342 (Int32.toNatClampNeg p0)).toInt - p1.toInt ∧ p4.toInt + 0 ≤ ((I0 342 (Int32.toNatClampNeg p0)) - p1).toInt ∧ (0 : Int) + 0 ≤ p3.toInt ∧ (I0 342 (Int32.toNatClampNeg p2)).toInt + 1 ≤ p3.toInt ∧ ((-1000010 : Int32) - (2 : Int32)).toInt = (-1000010 : Int) - (2 : Int) ∧ r = (-1000010 : Int32) - (2 : Int32) ∧ I1 340 4 = 2 ∧ True) ∨ (dkN [(-1000012, -1000012)] r ∧ dkN [(0, 7)] p0 ∧ dkN [(0, 40)] p1 ∧ dkN [(0, 7)] p2 ∧ dkN [(0, 40)] p3 ∧ dkN [(0, 40)] p4 ∧ dkN [(2, 2)] (I1 340 4) ∧ (0 : Int) + 0 ≤ p0.toInt ∧ p0.toInt + 0 ≤ (7 : Int) ∧ (0 : Int) + 0 ≤ p2.toInt ∧ p2.toInt + 0 ≤ (7 : Int) ∧ (I0 341 (Int32.toNatClampNeg p0)).toInt ≠ (-1000000 : Int) ∧ (I0 341 (Int32.toNatClampNeg p2)).toInt ≠ (-1000000 : Int) ∧ (I0 341 (Int32.toNatClampNeg p0)).toInt = (I0 341 (Int32.toNatClampNeg p2)).toInt ∧ (0 : Int) + 0 ≤ p1.toInt ∧ (0 : Int) + 0 ≤ p4.toInt ∧ p1.toInt + 0 ≤ (I0 342 (Int32.toNatClampNeg p0)).toInt ∧ ((I0 342 (Int32.toNatClampNeg p0)) - p1).toInt = (I0 342 (Int32.toNatClampNeg p0)).toInt - p1.toInt ∧ p4.toInt + 0 ≤ ((I0 342 (Int32.toNatClampNeg p0)) - p1).toInt ∧ (0 : Int) + 0 ≤ p3.toInt ∧ p3.toInt + 0 ≤ (I0 342 (Int32.toNatClampNeg p2)).toInt ∧ ((I0 342 (Int32.toNatClampNeg p2)) - p3).toInt = (I0 342 (Int32.toNatClampNeg p2)).toInt - p3.toInt ∧ ((I0 342 (Int32.toNatClampNeg p2)) - p3).toInt + 1 ≤ p4.toInt ∧ ((-1000010 : Int32) - (2 : Int32)).toInt = (-1000010 : Int) - (2 : Int) ∧ r = (-1000010 : Int32) - (2 : Int32) ∧ I1 340 4 = 2 ∧ True) ∨ (dkN [(-1000015, -1000015)] r ∧ dkN [(0, 7)] p0 ∧ dkN [(0, 7)] p2 ∧ dkN [(5, 5)] (I1 340 4) ∧ (0 : Int) + 0 ≤ p0.toInt ∧ p0.toInt + 0 ≤ (7 : Int) ∧ (0 : Int) + 0 ≤ p2.toInt ∧ p2.toInt + 0 ≤ (7 : Int) ∧ (I0 341 (Int32.toNatClampNeg p0)).toInt ≠ (-1000000 : Int) ∧ (I0 341 (Int32.toNatClampNeg p2)).toInt ≠ (-1000000 : Int) ∧ (I0 341 (Int32.toNatClampNeg p0)).toInt ≠ (I0 341 (Int32.toNatClampNeg p2)).toInt ∧ ((-1000010 : Int32) - (5 : Int32)).toInt = (-1000010 : Int) - (5 : Int) ∧ r = (-1000010 : Int32) - (5 : Int32) ∧ I1 340 4 = 5 ∧ True) ∨ (dkN [(-1000011, -1000011)] r ∧ dkN [(0, 7)] p0 ∧ dkN [(0, 7)] p2 ∧ dkN [(1, 1)] (I1 340 4) ∧ (0 : Int) + 0 ≤ p0.toInt ∧ p0.toInt + 0 ≤ (7 : Int) ∧ (0 : Int) + 0 ≤ p2.toInt ∧ p2.toInt + 0 ≤ (7 : Int) ∧ (I0 341 (Int32.toNatClampNeg p0)).toInt ≠ (-1000000 : Int) ∧ (I0 341 (Int32.toNatClampNeg p2)).toInt = (-1000000 : Int) ∧ ((-1000010 : Int32) - (1 : Int32)).toInt = (-1000010 : Int) - (1 : Int) ∧ r = (-1000010 : Int32) - (1 : Int32) ∧ I1 340 4 = 1 ∧ True) ∨ (dkN [(-1000011, -1000011)] r ∧ dkN [(0, 7)] p0 ∧ dkN [(0, 7)] p2 ∧ dkN [(1, 1)] (I1 340 4) ∧ (0 : Int) + 0 ≤ p0.toInt ∧ p0.toInt + 0 ≤ (7 : Int) ∧ (0 : Int) + 0 ≤ p2.toInt ∧ p2.toInt + 0 ≤ (7 : Int) ∧ (I0 341 (Int32.toNatClampNeg p0)).toInt = (-1000000 : Int) ∧ ((-1000010 : Int32) - (1 : Int32)).toInt = (-1000010 : Int) - (1 : Int) ∧ r = (-1000010 : Int32) - (1 : Int32) ∧ I1 340 4 = 1 ∧ True) ∨ (True ∧ dkN [(0, 7)] p0 ∧ dkN [(0, 40)] p1 ∧ dkN [(0, 7)] p2 ∧ dkN [(0, 40)] p3 ∧ dkN [(0, 40)] p4 ∧ dkN [(0, 0)] (I1 340 4) ∧ (0 : Int) + 0 ≤ p0.toInt ∧ p0.toInt + 0 ≤ (7 : Int) ∧ (0 : Int) + 0 ≤ p2.toInt ∧ p2.toInt + 0 ≤ (7 : Int) ∧ (I0 341 (Int32.toNatClampNeg p0)).toInt ≠ (-1000000 : Int) ∧ (I0 341 (Int32.toNatClampNeg p2)).toInt ≠ (-1000000 : Int) ∧ (I0 341 (Int32.toNatClampNeg p0)).toInt = (I0 341 (Int32.toNatClampNeg p2)).toInt ∧ (0 : Int) + 0 ≤ p1.toInt ∧ (0 : Int) + 0 ≤ p4.toInt ∧ p1.toInt + 0 ≤ (I0 342 (Int32.toNatClampNeg p0)).toInt ∧ ((I0 342 (Int32.toNatClampNeg p0)) - p1).toInt = (I0 342 (Int32.toNatClampNeg p0)).toInt - p1.toInt ∧ p4.toInt + 0 ≤ ((I0 342 (Int32.toNatClampNeg p0)) - p1).toInt ∧ (0 : Int) + 0 ≤ p3.toInt ∧ p3.toInt + 0 ≤ (I0 342 (Int32.toNatClampNeg p2)).toInt ∧ ((I0 342 (Int32.toNatClampNeg p2)) - p3).toInt = (I0 342 (Int32.toNatClampNeg p2)).toInt - p3.toInt ∧ p4.toInt + 0 ≤ ((I0 342 (Int32.toNatClampNeg p2)) - p3).toInt ∧ r = p4 ∧ I1 340 4 = 0 ∧ True)))) args s 0 0 (dkA z)) (F0 m 92 ls []) := by
    intro n
    induction n with
    | zero => intro I H locs ls x92_6 hn; exact absurd hn (Nat.not_lt_zero _)
    | succ n ih92 =>
      intro I92_ H locs ls x92_6 hn92 hW hS hF_92 hO k92_0 r92_0 r92_1 r92_2 r92_3 r92_4 q92_0 q92_1 y92_0 y92_1 y92_2 y92_3 y92_4 y92_5 y92_6 y92_7 y92_8 y92_9 y92_10 y92_11 y92_12 y92_13 y92_14 y92_15 hl
      have hF := hF_92
      refine lv_iload hx hb dX6_copy_92 (lv_at hl 6 rfl) ?_
      refine lv_iload hx hb dX6_copy_94 (lv_at hl 5 rfl) ?_
      refine lv_icmp_ge (tgt := 126) hx hb dX6_copy_96 (by decide) (fun c14 => ?_) (fun c14 => ?_)
      ·
        refine lv_iconst (v := 0) hx hb dX6_copy_126 (by decide) ?_
        refine lv_istore (lv' := [(6, .int 0), (0, .ref (z + 340)), (1, .int p0), (2, .int p1), (3, .int p2), (4, .int p3), (5, .int p4)]) hx hb dX6_copy_127 hl (by decide) rfl (fun ls hl => ?_)
        exact C129 _ I92_ _ _ ls 0 (Nat.lt_succ_self _) hW hS hF hO (dkN_sub (dkN_lit (x := 0) (0) rfl) rfl) (dkN_sub r92_0 rfl) (dkN_sub r92_1 rfl) (dkN_sub r92_2 rfl) (dkN_sub r92_3 rfl) (dkN_sub r92_4 rfl) q92_0 q92_1 y92_0 y92_1 y92_2 y92_3 y92_4 y92_5 y92_6 y92_7 y92_8 y92_9 y92_10 y92_11 y92_12 y92_13 y92_14 y92_15 (lv_sub hl [1, 2, 3, 4, 5, 6, 0] rfl)
      ·
        have d15 : dkN [(1, 40)] p4 := dkN_le2 1 k92_0 r92_4 (dkc_nle c14) rfl
        have d16 : dkN [(0, 39)] x92_6 := dkN_le1 1 k92_0 r92_4 (dkc_nle c14) rfl
        refine lv_aload_n hx hb dX6_copy_99 rfl (lv_at hl 0 rfl) ?_
        refine dk_get (k := 340) hx hb hts iX6_copy_6 hown hK (dk_at340 hW) rfl 3 (by decide) (hts (.fieldLink RX6 19 "DogKingsModel" "spare" "[I") (List.mem_of_getElem? (i := 3) rfl)) rfl dX6_copy_100 ?_
        refine lv_iload hx hb dX6_copy_103 (lv_at hl 6 rfl) ?_
        refine lv_aload_n hx hb dX6_copy_105 rfl (lv_at hl 0 rfl) ?_
        refine dk_get (k := 340) hx hb hts iX6_copy_6 hown hK (dk_at340 hW) rfl 2 (by decide) (hts (.fieldLink RX6 16 "DogKingsModel" "items" "[I") (List.mem_of_getElem? (i := 4) rfl)) rfl dX6_copy_106 ?_
        refine lv_bipush (v := 40) hx hb dX6_copy_109 (by decide) ?_
        refine lv_iload_n hx hb dX6_copy_111 rfl (lv_at hl 1 rfl) ?_
        refine lv_imul hx hb dX6_copy_112 ?_
        refine lv_topi (fun v17 ev17 => ?_)
        have dv17 : dkN [(0, 280)] v17 := by rw [ev17]; exact dkN_mulL 40 (by decide) (dkN_lit (x := 40) (40) rfl) r92_0 rfl
        have xv17 : v17 = (40 : Int32) * p0 := by rw [ev17]
        have q18 : ((40 : Int32) * p0).toInt = (40 : Int) * p0.toInt := by first | (rw [← xv17]; exact (by rw [ev17]; exact dk_mulE 40 (x := 40) rfl r92_0 (by decide) rfl)) | (subst xv17; exact (by rw [ev17]; exact dk_mulE 40 (x := 40) rfl r92_0 (by decide) rfl))
        refine lv_iload_n hx hb dX6_copy_113 rfl (lv_at hl 2 rfl) ?_
        refine lv_iadd hx hb dX6_copy_114 ?_
        refine lv_topi (fun v19 ev19 => ?_)
        have dv19 : dkN [(0, 320)] v19 := by rw [ev19]; exact dkN_add dv17 r92_1 rfl
        have xv19 : v19 = ((40 : Int32) * p0) + p1 := by rw [ev19, xv17]
        have q20 : (((40 : Int32) * p0) + p1).toInt = ((40 : Int32) * p0).toInt + p1.toInt := by first | (rw [← xv19, ← xv17]; exact (by rw [ev19]; exact dk_addE dv17 r92_1 rfl)) | (subst xv19 xv17; exact (by rw [ev19]; exact dk_addE dv17 r92_1 rfl))
        refine lv_iload hx hb dX6_copy_115 (lv_at hl 6 rfl) ?_
        refine lv_iadd hx hb dX6_copy_117 ?_
        refine lv_topi (fun v21 ev21 => ?_)
        have dv21 : dkN [(0, 359)] v21 := by rw [ev21]; exact dkN_add dv19 d16 rfl
        refine dk_ild (k := 343) hx hb hK (dk_at343 hW) (dk_in320 ev17 ev19 ev21 r92_0 r92_1 d16 (dkc_nle c14) q92_0 rfl) dX6_copy_118 ?_
        refine lv_topi (fun v22 ev22 => ?_)
        refine dk_ist (k := 344) hx hb hK hW (fun _ => rfl) (by decide) hS (dkN_in (n := 40) d16 rfl) dX6_copy_119 (fun I23 H23 L23 eI23 hW hS => ?_)
        have hO := dkO_set hO eI23 (dkN_sub (dkN_top v22) rfl)
        have hF := dkF_set hF eI23 (dkIn_v d16 rfl)
        obtain ⟨v24, ev24⟩ : ∃ y : Int32, y = x92_6 + 1 := ⟨_, rfl⟩
        have dv24 : dkN [(1, 40)] v24 := by rw [ev24]; exact dkN_add d16 (dkN_lit (x := 1) (1) rfl) rfl
        refine lv_iinc (v := v24) (lv' := [(6, .int v24), (0, .ref (z + 340)), (1, .int p0), (2, .int p1), (3, .int p2), (4, .int p3), (5, .int p4)]) hx hb dX6_copy_120 hl (k := 6) rfl (by rw [ev24]; rfl) (by decide) rfl (fun ls hl => ?_)
        refine lv_goto (tgt := 92) hx hb dX6_copy_123 (by decide) ?_
        exact ih92 I23 _ _ ls v24 (dk_near hn92 (by rw [ev24]; exact dk_inc d16 rfl) (dkN_lt d16 rfl)) hW hS hF hO (dkN_sub dv24 rfl) (dkN_sub r92_0 rfl) (dkN_sub r92_1 rfl) (dkN_sub r92_2 rfl) (dkN_sub r92_3 rfl) (dkN_sub d15 rfl) q92_0 q92_1 y92_0 y92_1 y92_2 y92_3 y92_4 y92_5 y92_6 y92_7 y92_8 y92_9 y92_10 y92_11 y92_12 y92_13 y92_14 y92_15 (lv_sub hl [1, 2, 3, 4, 5, 6, 0] rfl)
  refine lv_iload_n hx hb dX6_copy_0 rfl (lv_at hl 1 rfl) ?_
  refine dk_Si (As := [.int p0]) (rest := []) ⟨hx, hb, hml, hown, hts⟩ (fx_X6_isRow_1 l g z I0 p0 hO) (va_cwS 1 hts gX6_copy_X6_isRow rfl rfl rfl (by decide +kernel) ⟨Nat.le_of_ble_eq_true rfl, Nat.le_of_ble_eq_true rfl⟩) hK hT hW hS rfl hl.1 rfl (Nat.le_of_ble_eq_true rfl) dX6_copy_1 ⟨Nat.zero_le _, Nat.zero_le _⟩ (fun v25 I25 H25 L25 hp25 hW hS => ?_)
  obtain ⟨hF25, hO, hc25⟩ := hp25
  have hF := dkF_call hF hF25 rfl
  have eI25 : I0 = I25 := (dkF_nil hF25).symm
  subst eI25
  rcases hc25 with ⟨dv25, a25_0, x25_0, xr25, -⟩ | hc25
  ·
    have q26 : p0.toInt + 1 ≤ (0 : Int) := x25_0
    have xv25 : v25 = 0 := by have h := xr25; exact h
    have d27 : dkN [(-2147483648, -1)] p0 := dkN_eq1 (dkN_top p0) a25_0 rfl rfl
    refine lv_if_eq (tgt := 14) hx hb dX6_copy_4 (by decide) (fun c28 => ?_) (fun c28 => ?_)
    ·
      refine lv_ldc (v := (-1000001)) hx hb hown (hts (.constant RX6 64 (-1000001)) (List.mem_of_getElem? (i := 1) rfl)) dX6_copy_14 ?_
      exact W.iret (v := (-1000001)) hx hb hr (fun t ht hW9 => ⟨⟨(-1000001), I0, rfl, ⟨hF, hO, Or.inl ⟨dkN_sub (dkN_lit (x := (-1000001)) (-1000001) rfl) rfl, dkN_sub d27 rfl, q26, rfl, rfl, trivial⟩⟩, dkW_eq ht hW⟩, hS.F ht⟩) hS.2.2 dX6_copy_16
    ·
      exact absurd ((xv25).trans (rfl).symm) c28
  rcases hc25 with ⟨dv25, a25_0, x25_0, x25_1, xr25, -⟩ | hc25
  ·
    have q29 : (0 : Int) + 0 ≤ p0.toInt := x25_0
    have q30 : (7 : Int) + 1 ≤ p0.toInt := x25_1
    have xv25 : v25 = 0 := by have h := xr25; exact h
    have d31 : dkN [(8, 2147483647)] p0 := dkN_eq1 (dkN_top p0) a25_0 rfl rfl
    refine lv_if_eq (tgt := 14) hx hb dX6_copy_4 (by decide) (fun c32 => ?_) (fun c32 => ?_)
    ·
      refine lv_ldc (v := (-1000001)) hx hb hown (hts (.constant RX6 64 (-1000001)) (List.mem_of_getElem? (i := 1) rfl)) dX6_copy_14 ?_
      exact W.iret (v := (-1000001)) hx hb hr (fun t ht hW9 => ⟨⟨(-1000001), I0, rfl, ⟨hF, hO, Or.inr (Or.inl ⟨dkN_sub (dkN_lit (x := (-1000001)) (-1000001) rfl) rfl, dkN_sub d31 rfl, q29, q30, rfl, rfl, trivial⟩)⟩, dkW_eq ht hW⟩, hS.F ht⟩) hS.2.2 dX6_copy_16
    ·
      exact absurd ((xv25).trans (rfl).symm) c32
  ·
    obtain ⟨dv25, a25_0, x25_0, x25_1, xr25, -⟩ := hc25
    have q33 : (0 : Int) + 0 ≤ p0.toInt := x25_0
    have q34 : p0.toInt + 0 ≤ (7 : Int) := x25_1
    have xv25 : v25 = 1 := by have h := xr25; exact h
    have d35 : dkN [(0, 7)] p0 := dkN_eq1 (dkN_top p0) a25_0 rfl rfl
    refine lv_if_eq (tgt := 14) hx hb dX6_copy_4 (by decide) (fun c36 => ?_) (fun c36 => ?_)
    ·
      exact (dkN_nil (show dkN [] v25 from dkN_eq1 dv25 (dkN_lit (x := 0) (0) rfl) (congrArg Int32.toInt c36) rfl)).elim
    ·
      refine lv_iload_n hx hb dX6_copy_7 rfl (lv_at hl 3 rfl) ?_
      refine dk_Si (As := [.int p2]) (rest := []) ⟨hx, hb, hml, hown, hts⟩ (fx_X6_isRow_1 l g z I0 p2 hO) (va_cwS 1 hts gX6_copy_X6_isRow rfl rfl rfl (by decide +kernel) ⟨Nat.le_of_ble_eq_true rfl, Nat.le_of_ble_eq_true rfl⟩) hK hT hW hS rfl hl.1 rfl (Nat.le_of_ble_eq_true rfl) dX6_copy_8 ⟨Nat.zero_le _, Nat.zero_le _⟩ (fun v37 I37 H37 L37 hp37 hW hS => ?_)
      obtain ⟨hF37, hO, hc37⟩ := hp37
      have hF := dkF_call hF hF37 rfl
      have eI37 : I0 = I37 := (dkF_nil hF37).symm
      subst eI37
      rcases hc37 with ⟨dv37, a37_0, x37_0, xr37, -⟩ | hc37
      ·
        have q38 : p2.toInt + 1 ≤ (0 : Int) := x37_0
        have xv37 : v37 = 0 := by have h := xr37; exact h
        have d39 : dkN [(-2147483648, -1)] p2 := dkN_eq1 (dkN_top p2) a37_0 rfl rfl
        refine lv_if_ne (tgt := 17) hx hb dX6_copy_11 (by decide) (fun c40 => ?_) (fun c40 => ?_)
        ·
          exact absurd ((xv37).trans (rfl).symm) c40
        ·
          refine lv_ldc (v := (-1000001)) hx hb hown (hts (.constant RX6 64 (-1000001)) (List.mem_of_getElem? (i := 1) rfl)) dX6_copy_14 ?_
          exact W.iret (v := (-1000001)) hx hb hr (fun t ht hW9 => ⟨⟨(-1000001), I0, rfl, ⟨hF, hO, Or.inr (Or.inr (Or.inl ⟨dkN_sub (dkN_lit (x := (-1000001)) (-1000001) rfl) rfl, dkN_sub d35 rfl, dkN_sub d39 rfl, q33, q34, q38, rfl, rfl, trivial⟩))⟩, dkW_eq ht hW⟩, hS.F ht⟩) hS.2.2 dX6_copy_16
      rcases hc37 with ⟨dv37, a37_0, x37_0, x37_1, xr37, -⟩ | hc37
      ·
        have q41 : (0 : Int) + 0 ≤ p2.toInt := x37_0
        have q42 : (7 : Int) + 1 ≤ p2.toInt := x37_1
        have xv37 : v37 = 0 := by have h := xr37; exact h
        have d43 : dkN [(8, 2147483647)] p2 := dkN_eq1 (dkN_top p2) a37_0 rfl rfl
        refine lv_if_ne (tgt := 17) hx hb dX6_copy_11 (by decide) (fun c44 => ?_) (fun c44 => ?_)
        ·
          exact absurd ((xv37).trans (rfl).symm) c44
        ·
          refine lv_ldc (v := (-1000001)) hx hb hown (hts (.constant RX6 64 (-1000001)) (List.mem_of_getElem? (i := 1) rfl)) dX6_copy_14 ?_
          exact W.iret (v := (-1000001)) hx hb hr (fun t ht hW9 => ⟨⟨(-1000001), I0, rfl, ⟨hF, hO, Or.inr (Or.inr (Or.inr (Or.inl ⟨dkN_sub (dkN_lit (x := (-1000001)) (-1000001) rfl) rfl, dkN_sub d35 rfl, dkN_sub d43 rfl, q33, q34, q41, q42, rfl, rfl, trivial⟩)))⟩, dkW_eq ht hW⟩, hS.F ht⟩) hS.2.2 dX6_copy_16
      ·
        obtain ⟨dv37, a37_0, x37_0, x37_1, xr37, -⟩ := hc37
        have q45 : (0 : Int) + 0 ≤ p2.toInt := x37_0
        have q46 : p2.toInt + 0 ≤ (7 : Int) := x37_1
        have xv37 : v37 = 1 := by have h := xr37; exact h
        have d47 : dkN [(0, 7)] p2 := dkN_eq1 (dkN_top p2) a37_0 rfl rfl
        refine lv_if_ne (tgt := 17) hx hb dX6_copy_11 (by decide) (fun c48 => ?_) (fun c48 => ?_)
        ·
          refine lv_aload_n hx hb dX6_copy_17 rfl (lv_at hl 0 rfl) ?_
          refine lv_iload_n hx hb dX6_copy_18 rfl (lv_at hl 1 rfl) ?_
          refine dk_Vi (As := [.int p0]) (rest := []) ⟨hx, hb, hml, hown, hts⟩ (fx_X6_isMissing_1 l g z I0 p0 d35 hO) (cwV 1 hts gX6_copy_X6_isMissing rfl rfl rfl (by decide +kernel) ⟨Nat.le_of_ble_eq_true rfl, Nat.le_of_ble_eq_true rfl⟩) (dk_at340 hW) rfl hK hT hW hS rfl hl.1 rfl (Nat.le_of_ble_eq_true rfl) dX6_copy_19 ⟨Nat.zero_le _, Nat.zero_le _⟩ (fun v49 I49 H49 L49 hp49 hW hS => ?_)
          obtain ⟨hF49, hO, hc49⟩ := hp49
          have hF := dkF_call hF hF49 rfl
          have eI49 : I0 = I49 := (dkF_nil hF49).symm
          subst eI49
          rcases hc49 with ⟨dv49, x49_0, xr49, -⟩ | hc49
          ·
            have q50 : (I0 341 (Int32.toNatClampNeg p0)).toInt ≠ (-1000000 : Int) := x49_0
            have xv49 : v49 = 0 := by have h := xr49; exact h
            refine lv_if_ne (tgt := 33) hx hb dX6_copy_22 (by decide) (fun c51 => ?_) (fun c51 => ?_)
            ·
              exact absurd ((xv49).trans (rfl).symm) c51
            ·
              refine lv_aload_n hx hb dX6_copy_25 rfl (lv_at hl 0 rfl) ?_
              refine lv_iload_n hx hb dX6_copy_26 rfl (lv_at hl 3 rfl) ?_
              refine dk_Vi (As := [.int p2]) (rest := []) ⟨hx, hb, hml, hown, hts⟩ (fx_X6_isMissing_1 l g z I0 p2 d47 hO) (cwV 1 hts gX6_copy_X6_isMissing rfl rfl rfl (by decide +kernel) ⟨Nat.le_of_ble_eq_true rfl, Nat.le_of_ble_eq_true rfl⟩) (dk_at340 hW) rfl hK hT hW hS rfl hl.1 rfl (Nat.le_of_ble_eq_true rfl) dX6_copy_27 ⟨Nat.zero_le _, Nat.zero_le _⟩ (fun v52 I52 H52 L52 hp52 hW hS => ?_)
              obtain ⟨hF52, hO, hc52⟩ := hp52
              have hF := dkF_call hF hF52 rfl
              have eI52 : I0 = I52 := (dkF_nil hF52).symm
              subst eI52
              rcases hc52 with ⟨dv52, x52_0, xr52, -⟩ | hc52
              ·
                have q53 : (I0 341 (Int32.toNatClampNeg p2)).toInt ≠ (-1000000 : Int) := x52_0
                have xv52 : v52 = 0 := by have h := xr52; exact h
                refine lv_if_eq (tgt := 39) hx hb dX6_copy_30 (by decide) (fun c54 => ?_) (fun c54 => ?_)
                ·
                  refine lv_aload_n hx hb dX6_copy_39 rfl (lv_at hl 0 rfl) ?_
                  refine dk_get (k := 340) hx hb hts iX6_copy_6 hown hK (dk_at340 hW) rfl 0 (by decide) (hts (.fieldLink RX6 7 "DogKingsModel" "lane" "[I") (List.mem_of_getElem? (i := 2) rfl)) rfl dX6_copy_40 ?_
                  refine lv_iload_n hx hb dX6_copy_43 rfl (lv_at hl 1 rfl) ?_
                  refine dk_ild (k := 341) hx hb hK (dk_at341 hW) (dkN_in (n := 8) d35 rfl) dX6_copy_44 ?_
                  refine lv_topi (fun v55 ev55 => ?_)
                  have dv55 : dkN [(-1000000, -1000000), (0, 2)] v55 := by rw [ev55]; exact (hO 341 _)
                  have xv55 : v55 = I0 341 (Int32.toNatClampNeg p0) := ev55.trans rfl
                  refine lv_aload_n hx hb dX6_copy_45 rfl (lv_at hl 0 rfl) ?_
                  refine dk_get (k := 340) hx hb hts iX6_copy_6 hown hK (dk_at340 hW) rfl 0 (by decide) (hts (.fieldLink RX6 7 "DogKingsModel" "lane" "[I") (List.mem_of_getElem? (i := 2) rfl)) rfl dX6_copy_46 ?_
                  refine lv_iload_n hx hb dX6_copy_49 rfl (lv_at hl 3 rfl) ?_
                  refine dk_ild (k := 341) hx hb hK (dk_at341 hW) (dkN_in (n := 8) d47 rfl) dX6_copy_50 ?_
                  refine lv_topi (fun v56 ev56 => ?_)
                  have dv56 : dkN [(-1000000, -1000000), (0, 2)] v56 := by rw [ev56]; exact (hO 341 _)
                  have xv56 : v56 = I0 341 (Int32.toNatClampNeg p2) := ev56.trans rfl
                  refine lv_icmp_eq (tgt := 60) hx hb dX6_copy_51 (by decide) (fun c57 => ?_) (fun c57 => ?_)
                  ·
                    have q58 : (I0 341 (Int32.toNatClampNeg p0)).toInt = (I0 341 (Int32.toNatClampNeg p2)).toInt := by first | (rw [← xv55, ← xv56]; exact (congrArg Int32.toInt c57)) | (subst xv55 xv56; exact (congrArg Int32.toInt c57))
                    refine lv_aload_n hx hb dX6_copy_60 rfl (lv_at hl 0 rfl) ?_
                    refine lv_iload_n hx hb dX6_copy_61 rfl (lv_at hl 1 rfl) ?_
                    refine lv_iload_n hx hb dX6_copy_62 rfl (lv_at hl 2 rfl) ?_
                    refine lv_iload hx hb dX6_copy_63 (lv_at hl 5 rfl) ?_
                    refine dk_Vi (As := [.int p0, .int p1, .int p4]) (rest := []) ⟨hx, hb, hml, hown, hts⟩ (fx_X6_isPart_3 l g z I0 p0 p1 p4 d35 hO) (cwV 3 hts gX6_copy_X6_isPart rfl rfl rfl (by decide +kernel) ⟨Nat.le_of_ble_eq_true rfl, Nat.le_of_ble_eq_true rfl⟩) (dk_at340 hW) rfl hK hT hW hS rfl hl.1 rfl (Nat.le_of_ble_eq_true rfl) dX6_copy_65 ⟨Nat.zero_le _, Nat.zero_le _⟩ (fun v59 I59 H59 L59 hp59 hW hS => ?_)
                    obtain ⟨hF59, hO, hc59⟩ := hp59
                    have hF := dkF_call hF hF59 rfl
                    have eI59 : I0 = I59 := (dkF_nil hF59).symm
                    subst eI59
                    rcases hc59 with ⟨dv59, a59_1, x59_0, xr59, -⟩ | hc59
                    ·
                      have q60 : p1.toInt + 1 ≤ (0 : Int) := x59_0
                      have xv59 : v59 = 0 := by have h := xr59; exact h
                      have d61 : dkN [(-2147483648, -1)] p1 := dkN_eq1 (dkN_top p1) a59_1 rfl rfl
                      refine lv_if_eq (tgt := 83) hx hb dX6_copy_68 (by decide) (fun c62 => ?_) (fun c62 => ?_)
                      ·
                        refine lv_aload_n hx hb dX6_copy_83 rfl (lv_at hl 0 rfl) ?_
                        refine lv_iconst (v := 2) hx hb dX6_copy_84 (by decide) ?_
                        refine dk_Vi (As := [.int 2]) (rest := []) ⟨hx, hb, hml, hown, hts⟩ (fx_X6_found_7 l g z I0 2 (dkN_lit (x := 2) (2) rfl) hO) (cwV 1 hts gX6_copy_X6_found rfl rfl rfl (by decide +kernel) ⟨Nat.le_of_ble_eq_true rfl, Nat.le_of_ble_eq_true rfl⟩) (dk_at340 hW) rfl hK hT hW hS rfl hl.1 rfl (Nat.le_of_ble_eq_true rfl) dX6_copy_85 ⟨Nat.zero_le _, Nat.zero_le _⟩ (fun v63 I63 H63 L63 hp63 hW hS => ?_)
                        obtain ⟨hF63, hO, hc63⟩ := hp63
                        have hF := dkF_call hF hF63 rfl
                        obtain ⟨dv63, f63_340_4, x63_0, xr63, xh63_0, -⟩ := hc63
                        have q64 : ((-1000010 : Int32) - (2 : Int32)).toInt = (-1000010 : Int) - (2 : Int) := x63_0
                        have y65 : I63 340 4 = 2 := by have h := xh63_0; exact h
                        have xv63 : v63 = (-1000010 : Int32) - (2 : Int32) := by have h := xr63; exact h
                        exact W.iret (v := v63) hx hb hr (fun t ht hW9 => ⟨⟨v63, I63, rfl, ⟨hF, hO, Or.inr (Or.inr (Or.inr (Or.inr (Or.inl ⟨dkN_sub dv63 rfl, dkN_sub d35 rfl, dkN_sub d61 rfl, dkN_sub d47 rfl, (show dkN [(2, 2)] (I63 340 4) from dkN_sub f63_340_4 rfl), q33, q34, q45, q46, q50, q53, q58, q60, q64, xv63, y65, trivial⟩))))⟩, dkW_eq ht hW⟩, hS.F ht⟩) hS.2.2 dX6_copy_88
                      ·
                        exact absurd ((xv59).trans (rfl).symm) c62
                    rcases hc59 with ⟨dv59, a59_1, a59_2, x59_0, x59_1, xr59, -⟩ | hc59
                    ·
                      have q66 : (0 : Int) + 0 ≤ p1.toInt := x59_0
                      have q67 : p4.toInt + 1 ≤ (0 : Int) := x59_1
                      have xv59 : v59 = 0 := by have h := xr59; exact h
                      have d68 : dkN [(0, 2147483647)] p1 := dkN_eq1 (dkN_top p1) a59_1 rfl rfl
                      have d69 : dkN [(-2147483648, -1)] p4 := dkN_eq1 (dkN_top p4) a59_2 rfl rfl
                      refine lv_if_eq (tgt := 83) hx hb dX6_copy_68 (by decide) (fun c70 => ?_) (fun c70 => ?_)
                      ·
                        refine lv_aload_n hx hb dX6_copy_83 rfl (lv_at hl 0 rfl) ?_
                        refine lv_iconst (v := 2) hx hb dX6_copy_84 (by decide) ?_
                        refine dk_Vi (As := [.int 2]) (rest := []) ⟨hx, hb, hml, hown, hts⟩ (fx_X6_found_7 l g z I0 2 (dkN_lit (x := 2) (2) rfl) hO) (cwV 1 hts gX6_copy_X6_found rfl rfl rfl (by decide +kernel) ⟨Nat.le_of_ble_eq_true rfl, Nat.le_of_ble_eq_true rfl⟩) (dk_at340 hW) rfl hK hT hW hS rfl hl.1 rfl (Nat.le_of_ble_eq_true rfl) dX6_copy_85 ⟨Nat.zero_le _, Nat.zero_le _⟩ (fun v71 I71 H71 L71 hp71 hW hS => ?_)
                        obtain ⟨hF71, hO, hc71⟩ := hp71
                        have hF := dkF_call hF hF71 rfl
                        obtain ⟨dv71, f71_340_4, x71_0, xr71, xh71_0, -⟩ := hc71
                        have q72 : ((-1000010 : Int32) - (2 : Int32)).toInt = (-1000010 : Int) - (2 : Int) := x71_0
                        have y73 : I71 340 4 = 2 := by have h := xh71_0; exact h
                        have xv71 : v71 = (-1000010 : Int32) - (2 : Int32) := by have h := xr71; exact h
                        exact W.iret (v := v71) hx hb hr (fun t ht hW9 => ⟨⟨v71, I71, rfl, ⟨hF, hO, Or.inr (Or.inr (Or.inr (Or.inr (Or.inr (Or.inl ⟨dkN_sub dv71 rfl, dkN_sub d35 rfl, dkN_sub d68 rfl, dkN_sub d47 rfl, dkN_sub d69 rfl, (show dkN [(2, 2)] (I71 340 4) from dkN_sub f71_340_4 rfl), q33, q34, q45, q46, q50, q53, q58, q66, q67, q72, xv71, y73, trivial⟩)))))⟩, dkW_eq ht hW⟩, hS.F ht⟩) hS.2.2 dX6_copy_88
                      ·
                        exact absurd ((xv59).trans (rfl).symm) c70
                    rcases hc59 with ⟨dv59, a59_1, a59_2, x59_0, x59_1, x59_2, xr59, -⟩ | hc59
                    ·
                      have q74 : (0 : Int) + 0 ≤ p1.toInt := x59_0
                      have q75 : (0 : Int) + 0 ≤ p4.toInt := x59_1
                      have q76 : (I0 342 (Int32.toNatClampNeg p0)).toInt + 1 ≤ p1.toInt := x59_2
                      have xv59 : v59 = 0 := by have h := xr59; exact h
                      have d77 : dkN [(1, 2147483647)] p1 := dkN_eq1 (dkN_top p1) a59_1 rfl rfl
                      have d78 : dkN [(0, 2147483647)] p4 := dkN_eq1 (dkN_top p4) a59_2 rfl rfl
                      refine lv_if_eq (tgt := 83) hx hb dX6_copy_68 (by decide) (fun c79 => ?_) (fun c79 => ?_)
                      ·
                        refine lv_aload_n hx hb dX6_copy_83 rfl (lv_at hl 0 rfl) ?_
                        refine lv_iconst (v := 2) hx hb dX6_copy_84 (by decide) ?_
                        refine dk_Vi (As := [.int 2]) (rest := []) ⟨hx, hb, hml, hown, hts⟩ (fx_X6_found_7 l g z I0 2 (dkN_lit (x := 2) (2) rfl) hO) (cwV 1 hts gX6_copy_X6_found rfl rfl rfl (by decide +kernel) ⟨Nat.le_of_ble_eq_true rfl, Nat.le_of_ble_eq_true rfl⟩) (dk_at340 hW) rfl hK hT hW hS rfl hl.1 rfl (Nat.le_of_ble_eq_true rfl) dX6_copy_85 ⟨Nat.zero_le _, Nat.zero_le _⟩ (fun v80 I80 H80 L80 hp80 hW hS => ?_)
                        obtain ⟨hF80, hO, hc80⟩ := hp80
                        have hF := dkF_call hF hF80 rfl
                        obtain ⟨dv80, f80_340_4, x80_0, xr80, xh80_0, -⟩ := hc80
                        have q81 : ((-1000010 : Int32) - (2 : Int32)).toInt = (-1000010 : Int) - (2 : Int) := x80_0
                        have y82 : I80 340 4 = 2 := by have h := xh80_0; exact h
                        have xv80 : v80 = (-1000010 : Int32) - (2 : Int32) := by have h := xr80; exact h
                        exact W.iret (v := v80) hx hb hr (fun t ht hW9 => ⟨⟨v80, I80, rfl, ⟨hF, hO, Or.inr (Or.inr (Or.inr (Or.inr (Or.inr (Or.inr (Or.inl ⟨dkN_sub dv80 rfl, dkN_sub d35 rfl, dkN_sub d77 rfl, dkN_sub d47 rfl, dkN_sub d78 rfl, (show dkN [(2, 2)] (I80 340 4) from dkN_sub f80_340_4 rfl), q33, q34, q45, q46, q50, q53, q58, q74, q75, q76, q81, xv80, y82, trivial⟩))))))⟩, dkW_eq ht hW⟩, hS.F ht⟩) hS.2.2 dX6_copy_88
                      ·
                        exact absurd ((xv59).trans (rfl).symm) c79
                    rcases hc59 with ⟨dv59, a59_1, a59_2, x59_0, x59_1, x59_2, x59_3, x59_4, xr59, -⟩ | hc59
                    ·
                      have q83 : (0 : Int) + 0 ≤ p1.toInt := x59_0
                      have q84 : (0 : Int) + 0 ≤ p4.toInt := x59_1
                      have q85 : p1.toInt + 0 ≤ (I0 342 (Int32.toNatClampNeg p0)).toInt := x59_2
                      have q86 : ((I0 342 (Int32.toNatClampNeg p0)) - p1).toInt = (I0 342 (Int32.toNatClampNeg p0)).toInt - p1.toInt := x59_3
                      have q87 : ((I0 342 (Int32.toNatClampNeg p0)) - p1).toInt + 1 ≤ p4.toInt := x59_4
                      have xv59 : v59 = 0 := by have h := xr59; exact h
                      have d88 : dkN [(0, 40)] p1 := dkN_eq1 (dkN_top p1) a59_1 rfl rfl
                      have d89 : dkN [(0, 2147483647)] p4 := dkN_eq1 (dkN_top p4) a59_2 rfl rfl
                      refine lv_if_eq (tgt := 83) hx hb dX6_copy_68 (by decide) (fun c90 => ?_) (fun c90 => ?_)
                      ·
                        refine lv_aload_n hx hb dX6_copy_83 rfl (lv_at hl 0 rfl) ?_
                        refine lv_iconst (v := 2) hx hb dX6_copy_84 (by decide) ?_
                        refine dk_Vi (As := [.int 2]) (rest := []) ⟨hx, hb, hml, hown, hts⟩ (fx_X6_found_7 l g z I0 2 (dkN_lit (x := 2) (2) rfl) hO) (cwV 1 hts gX6_copy_X6_found rfl rfl rfl (by decide +kernel) ⟨Nat.le_of_ble_eq_true rfl, Nat.le_of_ble_eq_true rfl⟩) (dk_at340 hW) rfl hK hT hW hS rfl hl.1 rfl (Nat.le_of_ble_eq_true rfl) dX6_copy_85 ⟨Nat.zero_le _, Nat.zero_le _⟩ (fun v91 I91 H91 L91 hp91 hW hS => ?_)
                        obtain ⟨hF91, hO, hc91⟩ := hp91
                        have hF := dkF_call hF hF91 rfl
                        obtain ⟨dv91, f91_340_4, x91_0, xr91, xh91_0, -⟩ := hc91
                        have q92 : ((-1000010 : Int32) - (2 : Int32)).toInt = (-1000010 : Int) - (2 : Int) := x91_0
                        have y93 : I91 340 4 = 2 := by have h := xh91_0; exact h
                        have xv91 : v91 = (-1000010 : Int32) - (2 : Int32) := by have h := xr91; exact h
                        exact W.iret (v := v91) hx hb hr (fun t ht hW9 => ⟨⟨v91, I91, rfl, ⟨hF, hO, Or.inr (Or.inr (Or.inr (Or.inr (Or.inr (Or.inr (Or.inr (Or.inl ⟨dkN_sub dv91 rfl, dkN_sub d35 rfl, dkN_sub d88 rfl, dkN_sub d47 rfl, dkN_sub d89 rfl, (show dkN [(2, 2)] (I91 340 4) from dkN_sub f91_340_4 rfl), q33, q34, q45, q46, q50, q53, q58, q83, q84, q85, q86, q87, q92, xv91, y93, trivial⟩)))))))⟩, dkW_eq ht hW⟩, hS.F ht⟩) hS.2.2 dX6_copy_88
                      ·
                        exact absurd ((xv59).trans (rfl).symm) c90
                    ·
                      obtain ⟨dv59, a59_1, a59_2, q59_0, x59_0, x59_1, x59_2, x59_3, x59_4, xr59, -⟩ := hc59
                      have q94 : (0 : Int) + 0 ≤ p1.toInt := x59_0
                      have q95 : (0 : Int) + 0 ≤ p4.toInt := x59_1
                      have q96 : p1.toInt + 0 ≤ (I0 342 (Int32.toNatClampNeg p0)).toInt := x59_2
                      have q97 : ((I0 342 (Int32.toNatClampNeg p0)) - p1).toInt = (I0 342 (Int32.toNatClampNeg p0)).toInt - p1.toInt := x59_3
                      have q98 : p4.toInt + 0 ≤ ((I0 342 (Int32.toNatClampNeg p0)) - p1).toInt := x59_4
                      have xv59 : v59 = 1 := by have h := xr59; exact h
                      have d99 : dkN [(0, 40)] p1 := dkN_eq1 (dkN_top p1) a59_1 rfl rfl
                      have d100 : dkN [(0, 40)] p4 := dkN_eq1 (dkN_top p4) a59_2 rfl rfl
                      refine lv_if_eq (tgt := 83) hx hb dX6_copy_68 (by decide) (fun c101 => ?_) (fun c101 => ?_)
                      ·
                        exact (dkN_nil (show dkN [] v59 from dkN_eq1 dv59 (dkN_lit (x := 0) (0) rfl) (congrArg Int32.toInt c101) rfl)).elim
                      ·
                        refine lv_aload_n hx hb dX6_copy_71 rfl (lv_at hl 0 rfl) ?_
                        refine lv_iload_n hx hb dX6_copy_72 rfl (lv_at hl 3 rfl) ?_
                        refine lv_iload hx hb dX6_copy_73 (lv_at hl 4 rfl) ?_
                        refine lv_iload hx hb dX6_copy_75 (lv_at hl 5 rfl) ?_
                        refine dk_Vi (As := [.int p2, .int p3, .int p4]) (rest := []) ⟨hx, hb, hml, hown, hts⟩ (fx_X6_isPart_4 l g z I0 p2 p3 p4 d47 d100 hO) (cwV 3 hts gX6_copy_X6_isPart rfl rfl rfl (by decide +kernel) ⟨Nat.le_of_ble_eq_true rfl, Nat.le_of_ble_eq_true rfl⟩) (dk_at340 hW) rfl hK hT hW hS rfl hl.1 rfl (Nat.le_of_ble_eq_true rfl) dX6_copy_77 ⟨Nat.zero_le _, Nat.zero_le _⟩ (fun v102 I102 H102 L102 hp102 hW hS => ?_)
                        obtain ⟨hF102, hO, hc102⟩ := hp102
                        have hF := dkF_call hF hF102 rfl
                        have eI102 : I0 = I102 := (dkF_nil hF102).symm
                        subst eI102
                        rcases hc102 with ⟨dv102, a102_1, x102_0, xr102, -⟩ | hc102
                        ·
                          have q103 : p3.toInt + 1 ≤ (0 : Int) := x102_0
                          have xv102 : v102 = 0 := by have h := xr102; exact h
                          have d104 : dkN [(-2147483648, -1)] p3 := dkN_eq1 (dkN_top p3) a102_1 rfl rfl
                          refine lv_if_ne (tgt := 89) hx hb dX6_copy_80 (by decide) (fun c105 => ?_) (fun c105 => ?_)
                          ·
                            exact absurd ((xv102).trans (rfl).symm) c105
                          ·
                            refine lv_aload_n hx hb dX6_copy_83 rfl (lv_at hl 0 rfl) ?_
                            refine lv_iconst (v := 2) hx hb dX6_copy_84 (by decide) ?_
                            refine dk_Vi (As := [.int 2]) (rest := []) ⟨hx, hb, hml, hown, hts⟩ (fx_X6_found_7 l g z I0 2 (dkN_lit (x := 2) (2) rfl) hO) (cwV 1 hts gX6_copy_X6_found rfl rfl rfl (by decide +kernel) ⟨Nat.le_of_ble_eq_true rfl, Nat.le_of_ble_eq_true rfl⟩) (dk_at340 hW) rfl hK hT hW hS rfl hl.1 rfl (Nat.le_of_ble_eq_true rfl) dX6_copy_85 ⟨Nat.zero_le _, Nat.zero_le _⟩ (fun v106 I106 H106 L106 hp106 hW hS => ?_)
                            obtain ⟨hF106, hO, hc106⟩ := hp106
                            have hF := dkF_call hF hF106 rfl
                            obtain ⟨dv106, f106_340_4, x106_0, xr106, xh106_0, -⟩ := hc106
                            have q107 : ((-1000010 : Int32) - (2 : Int32)).toInt = (-1000010 : Int) - (2 : Int) := x106_0
                            have y108 : I106 340 4 = 2 := by have h := xh106_0; exact h
                            have xv106 : v106 = (-1000010 : Int32) - (2 : Int32) := by have h := xr106; exact h
                            exact W.iret (v := v106) hx hb hr (fun t ht hW9 => ⟨⟨v106, I106, rfl, ⟨hF, hO, Or.inr (Or.inr (Or.inr (Or.inr (Or.inr (Or.inr (Or.inr (Or.inr (Or.inl ⟨dkN_sub dv106 rfl, dkN_sub d35 rfl, dkN_sub d99 rfl, dkN_sub d47 rfl, dkN_sub d104 rfl, dkN_sub d100 rfl, (show dkN [(2, 2)] (I106 340 4) from dkN_sub f106_340_4 rfl), q33, q34, q45, q46, q50, q53, q58, q94, q95, q96, q97, q98, q103, q107, xv106, y108, trivial⟩))))))))⟩, dkW_eq ht hW⟩, hS.F ht⟩) hS.2.2 dX6_copy_88
                        rcases hc102 with ⟨dv102, a102_1, x102_0, x102_1, x102_2, xr102, -⟩ | hc102
                        ·
                          have q109 : (0 : Int) + 0 ≤ p3.toInt := x102_0
                          have q110 : (I0 342 (Int32.toNatClampNeg p2)).toInt + 1 ≤ p3.toInt := x102_2
                          have xv102 : v102 = 0 := by have h := xr102; exact h
                          have d111 : dkN [(1, 2147483647)] p3 := dkN_eq1 (dkN_top p3) a102_1 rfl rfl
                          refine lv_if_ne (tgt := 89) hx hb dX6_copy_80 (by decide) (fun c112 => ?_) (fun c112 => ?_)
                          ·
                            exact absurd ((xv102).trans (rfl).symm) c112
                          ·
                            refine lv_aload_n hx hb dX6_copy_83 rfl (lv_at hl 0 rfl) ?_
                            refine lv_iconst (v := 2) hx hb dX6_copy_84 (by decide) ?_
                            refine dk_Vi (As := [.int 2]) (rest := []) ⟨hx, hb, hml, hown, hts⟩ (fx_X6_found_7 l g z I0 2 (dkN_lit (x := 2) (2) rfl) hO) (cwV 1 hts gX6_copy_X6_found rfl rfl rfl (by decide +kernel) ⟨Nat.le_of_ble_eq_true rfl, Nat.le_of_ble_eq_true rfl⟩) (dk_at340 hW) rfl hK hT hW hS rfl hl.1 rfl (Nat.le_of_ble_eq_true rfl) dX6_copy_85 ⟨Nat.zero_le _, Nat.zero_le _⟩ (fun v113 I113 H113 L113 hp113 hW hS => ?_)
                            obtain ⟨hF113, hO, hc113⟩ := hp113
                            have hF := dkF_call hF hF113 rfl
                            obtain ⟨dv113, f113_340_4, x113_0, xr113, xh113_0, -⟩ := hc113
                            have q114 : ((-1000010 : Int32) - (2 : Int32)).toInt = (-1000010 : Int) - (2 : Int) := x113_0
                            have y115 : I113 340 4 = 2 := by have h := xh113_0; exact h
                            have xv113 : v113 = (-1000010 : Int32) - (2 : Int32) := by have h := xr113; exact h
                            exact W.iret (v := v113) hx hb hr (fun t ht hW9 => ⟨⟨v113, I113, rfl, ⟨hF, hO, Or.inr (Or.inr (Or.inr (Or.inr (Or.inr (Or.inr (Or.inr (Or.inr (Or.inr (Or.inl ⟨dkN_sub dv113 rfl, dkN_sub d35 rfl, dkN_sub d99 rfl, dkN_sub d47 rfl, dkN_sub d111 rfl, dkN_sub d100 rfl, (show dkN [(2, 2)] (I113 340 4) from dkN_sub f113_340_4 rfl), q33, q34, q45, q46, q50, q53, q58, q94, q95, q96, q97, q98, q109, q110, q114, xv113, y115, trivial⟩)))))))))⟩, dkW_eq ht hW⟩, hS.F ht⟩) hS.2.2 dX6_copy_88
                        rcases hc102 with ⟨dv102, a102_1, x102_0, x102_1, x102_2, x102_3, x102_4, xr102, -⟩ | hc102
                        ·
                          have q116 : (0 : Int) + 0 ≤ p3.toInt := x102_0
                          have q117 : p3.toInt + 0 ≤ (I0 342 (Int32.toNatClampNeg p2)).toInt := x102_2
                          have q118 : ((I0 342 (Int32.toNatClampNeg p2)) - p3).toInt = (I0 342 (Int32.toNatClampNeg p2)).toInt - p3.toInt := x102_3
                          have q119 : ((I0 342 (Int32.toNatClampNeg p2)) - p3).toInt + 1 ≤ p4.toInt := x102_4
                          have xv102 : v102 = 0 := by have h := xr102; exact h
                          have d120 : dkN [(0, 40)] p3 := dkN_eq1 (dkN_top p3) a102_1 rfl rfl
                          refine lv_if_ne (tgt := 89) hx hb dX6_copy_80 (by decide) (fun c121 => ?_) (fun c121 => ?_)
                          ·
                            exact absurd ((xv102).trans (rfl).symm) c121
                          ·
                            refine lv_aload_n hx hb dX6_copy_83 rfl (lv_at hl 0 rfl) ?_
                            refine lv_iconst (v := 2) hx hb dX6_copy_84 (by decide) ?_
                            refine dk_Vi (As := [.int 2]) (rest := []) ⟨hx, hb, hml, hown, hts⟩ (fx_X6_found_7 l g z I0 2 (dkN_lit (x := 2) (2) rfl) hO) (cwV 1 hts gX6_copy_X6_found rfl rfl rfl (by decide +kernel) ⟨Nat.le_of_ble_eq_true rfl, Nat.le_of_ble_eq_true rfl⟩) (dk_at340 hW) rfl hK hT hW hS rfl hl.1 rfl (Nat.le_of_ble_eq_true rfl) dX6_copy_85 ⟨Nat.zero_le _, Nat.zero_le _⟩ (fun v122 I122 H122 L122 hp122 hW hS => ?_)
                            obtain ⟨hF122, hO, hc122⟩ := hp122
                            have hF := dkF_call hF hF122 rfl
                            obtain ⟨dv122, f122_340_4, x122_0, xr122, xh122_0, -⟩ := hc122
                            have q123 : ((-1000010 : Int32) - (2 : Int32)).toInt = (-1000010 : Int) - (2 : Int) := x122_0
                            have y124 : I122 340 4 = 2 := by have h := xh122_0; exact h
                            have xv122 : v122 = (-1000010 : Int32) - (2 : Int32) := by have h := xr122; exact h
                            exact W.iret (v := v122) hx hb hr (fun t ht hW9 => ⟨⟨v122, I122, rfl, ⟨hF, hO, Or.inr (Or.inr (Or.inr (Or.inr (Or.inr (Or.inr (Or.inr (Or.inr (Or.inr (Or.inr (Or.inl ⟨dkN_sub dv122 rfl, dkN_sub d35 rfl, dkN_sub d99 rfl, dkN_sub d47 rfl, dkN_sub d120 rfl, dkN_sub d100 rfl, (show dkN [(2, 2)] (I122 340 4) from dkN_sub f122_340_4 rfl), q33, q34, q45, q46, q50, q53, q58, q94, q95, q96, q97, q98, q116, q117, q118, q119, q123, xv122, y124, trivial⟩))))))))))⟩, dkW_eq ht hW⟩, hS.F ht⟩) hS.2.2 dX6_copy_88
                        ·
                          obtain ⟨dv102, a102_1, q102_0, x102_0, x102_1, x102_2, x102_3, x102_4, xr102, -⟩ := hc102
                          have q125 : (0 : Int) + 0 ≤ p3.toInt := x102_0
                          have q126 : p3.toInt + 0 ≤ (I0 342 (Int32.toNatClampNeg p2)).toInt := x102_2
                          have q127 : ((I0 342 (Int32.toNatClampNeg p2)) - p3).toInt = (I0 342 (Int32.toNatClampNeg p2)).toInt - p3.toInt := x102_3
                          have q128 : p4.toInt + 0 ≤ ((I0 342 (Int32.toNatClampNeg p2)) - p3).toInt := x102_4
                          have xv102 : v102 = 1 := by have h := xr102; exact h
                          have d129 : dkN [(0, 40)] p3 := dkN_eq1 (dkN_top p3) a102_1 rfl rfl
                          refine lv_if_ne (tgt := 89) hx hb dX6_copy_80 (by decide) (fun c130 => ?_) (fun c130 => ?_)
                          ·
                            refine lv_iconst (v := 0) hx hb dX6_copy_89 (by decide) ?_
                            refine lv_istore (lv' := [(6, .int 0), (0, .ref (z + 340)), (1, .int p0), (2, .int p1), (3, .int p2), (4, .int p3), (5, .int p4)]) hx hb dX6_copy_90 hl (by decide) rfl (fun ls hl => ?_)
                            exact C92 _ I0 _ _ ls 0 (Nat.lt_succ_self _) hW hS hF hO (dkN_sub (dkN_lit (x := 0) (0) rfl) rfl) (dkN_sub d35 rfl) (dkN_sub d99 rfl) (dkN_sub d47 rfl) (dkN_sub d129 rfl) (dkN_sub d100 rfl) q59_0 q102_0 q33 q34 q45 q46 q50 q53 q58 q94 q95 q96 q97 q98 q125 q126 q127 q128 (lv_sub hl [1, 2, 3, 4, 5, 6, 0] rfl)
                          ·
                            exact (dkN_nil (show dkN [] v102 from dkN_eq1 dv102 (dkN_lit (x := 0) (0) rfl) (congrArg Int32.toInt c130) rfl)).elim
                  ·
                    have q131 : (I0 341 (Int32.toNatClampNeg p0)).toInt ≠ (I0 341 (Int32.toNatClampNeg p2)).toInt := by first | (rw [← xv55, ← xv56]; exact (dk_ne c57)) | (subst xv55 xv56; exact (dk_ne c57))
                    refine lv_aload_n hx hb dX6_copy_54 rfl (lv_at hl 0 rfl) ?_
                    refine lv_iconst (v := 5) hx hb dX6_copy_55 (by decide) ?_
                    refine dk_Vi (As := [.int 5]) (rest := []) ⟨hx, hb, hml, hown, hts⟩ (fx_X6_found_8 l g z I0 5 (dkN_lit (x := 5) (5) rfl) hO) (cwV 1 hts gX6_copy_X6_found rfl rfl rfl (by decide +kernel) ⟨Nat.le_of_ble_eq_true rfl, Nat.le_of_ble_eq_true rfl⟩) (dk_at340 hW) rfl hK hT hW hS rfl hl.1 rfl (Nat.le_of_ble_eq_true rfl) dX6_copy_56 ⟨Nat.zero_le _, Nat.zero_le _⟩ (fun v132 I132 H132 L132 hp132 hW hS => ?_)
                    obtain ⟨hF132, hO, hc132⟩ := hp132
                    have hF := dkF_call hF hF132 rfl
                    obtain ⟨dv132, f132_340_4, x132_0, xr132, xh132_0, -⟩ := hc132
                    have q133 : ((-1000010 : Int32) - (5 : Int32)).toInt = (-1000010 : Int) - (5 : Int) := x132_0
                    have y134 : I132 340 4 = 5 := by have h := xh132_0; exact h
                    have xv132 : v132 = (-1000010 : Int32) - (5 : Int32) := by have h := xr132; exact h
                    exact W.iret (v := v132) hx hb hr (fun t ht hW9 => ⟨⟨v132, I132, rfl, ⟨hF, hO, Or.inr (Or.inr (Or.inr (Or.inr (Or.inr (Or.inr (Or.inr (Or.inr (Or.inr (Or.inr (Or.inr (Or.inl ⟨dkN_sub dv132 rfl, dkN_sub d35 rfl, dkN_sub d47 rfl, (show dkN [(5, 5)] (I132 340 4) from dkN_sub f132_340_4 rfl), q33, q34, q45, q46, q50, q53, q131, q133, xv132, y134, trivial⟩)))))))))))⟩, dkW_eq ht hW⟩, hS.F ht⟩) hS.2.2 dX6_copy_59
                ·
                  exact absurd ((xv52).trans (rfl).symm) c54
              ·
                obtain ⟨dv52, x52_0, xr52, -⟩ := hc52
                have q135 : (I0 341 (Int32.toNatClampNeg p2)).toInt = (-1000000 : Int) := x52_0
                have xv52 : v52 = 1 := by have h := xr52; exact h
                refine lv_if_eq (tgt := 39) hx hb dX6_copy_30 (by decide) (fun c136 => ?_) (fun c136 => ?_)
                ·
                  exact (dkN_nil (show dkN [] v52 from dkN_eq1 dv52 (dkN_lit (x := 0) (0) rfl) (congrArg Int32.toInt c136) rfl)).elim
                ·
                  refine lv_aload_n hx hb dX6_copy_33 rfl (lv_at hl 0 rfl) ?_
                  refine lv_iconst (v := 1) hx hb dX6_copy_34 (by decide) ?_
                  refine dk_Vi (As := [.int 1]) (rest := []) ⟨hx, hb, hml, hown, hts⟩ (fx_X6_found_6 l g z I0 1 (dkN_lit (x := 1) (1) rfl) hO) (cwV 1 hts gX6_copy_X6_found rfl rfl rfl (by decide +kernel) ⟨Nat.le_of_ble_eq_true rfl, Nat.le_of_ble_eq_true rfl⟩) (dk_at340 hW) rfl hK hT hW hS rfl hl.1 rfl (Nat.le_of_ble_eq_true rfl) dX6_copy_35 ⟨Nat.zero_le _, Nat.zero_le _⟩ (fun v137 I137 H137 L137 hp137 hW hS => ?_)
                  obtain ⟨hF137, hO, hc137⟩ := hp137
                  have hF := dkF_call hF hF137 rfl
                  obtain ⟨dv137, f137_340_4, x137_0, xr137, xh137_0, -⟩ := hc137
                  have q138 : ((-1000010 : Int32) - (1 : Int32)).toInt = (-1000010 : Int) - (1 : Int) := x137_0
                  have y139 : I137 340 4 = 1 := by have h := xh137_0; exact h
                  have xv137 : v137 = (-1000010 : Int32) - (1 : Int32) := by have h := xr137; exact h
                  exact W.iret (v := v137) hx hb hr (fun t ht hW9 => ⟨⟨v137, I137, rfl, ⟨hF, hO, Or.inr (Or.inr (Or.inr (Or.inr (Or.inr (Or.inr (Or.inr (Or.inr (Or.inr (Or.inr (Or.inr (Or.inr (Or.inl ⟨dkN_sub dv137 rfl, dkN_sub d35 rfl, dkN_sub d47 rfl, (show dkN [(1, 1)] (I137 340 4) from dkN_sub f137_340_4 rfl), q33, q34, q45, q46, q50, q135, q138, xv137, y139, trivial⟩))))))))))))⟩, dkW_eq ht hW⟩, hS.F ht⟩) hS.2.2 dX6_copy_38
          ·
            obtain ⟨dv49, x49_0, xr49, -⟩ := hc49
            have q140 : (I0 341 (Int32.toNatClampNeg p0)).toInt = (-1000000 : Int) := x49_0
            have xv49 : v49 = 1 := by have h := xr49; exact h
            refine lv_if_ne (tgt := 33) hx hb dX6_copy_22 (by decide) (fun c141 => ?_) (fun c141 => ?_)
            ·
              refine lv_aload_n hx hb dX6_copy_33 rfl (lv_at hl 0 rfl) ?_
              refine lv_iconst (v := 1) hx hb dX6_copy_34 (by decide) ?_
              refine dk_Vi (As := [.int 1]) (rest := []) ⟨hx, hb, hml, hown, hts⟩ (fx_X6_found_6 l g z I0 1 (dkN_lit (x := 1) (1) rfl) hO) (cwV 1 hts gX6_copy_X6_found rfl rfl rfl (by decide +kernel) ⟨Nat.le_of_ble_eq_true rfl, Nat.le_of_ble_eq_true rfl⟩) (dk_at340 hW) rfl hK hT hW hS rfl hl.1 rfl (Nat.le_of_ble_eq_true rfl) dX6_copy_35 ⟨Nat.zero_le _, Nat.zero_le _⟩ (fun v142 I142 H142 L142 hp142 hW hS => ?_)
              obtain ⟨hF142, hO, hc142⟩ := hp142
              have hF := dkF_call hF hF142 rfl
              obtain ⟨dv142, f142_340_4, x142_0, xr142, xh142_0, -⟩ := hc142
              have q143 : ((-1000010 : Int32) - (1 : Int32)).toInt = (-1000010 : Int) - (1 : Int) := x142_0
              have y144 : I142 340 4 = 1 := by have h := xh142_0; exact h
              have xv142 : v142 = (-1000010 : Int32) - (1 : Int32) := by have h := xr142; exact h
              exact W.iret (v := v142) hx hb hr (fun t ht hW9 => ⟨⟨v142, I142, rfl, ⟨hF, hO, Or.inr (Or.inr (Or.inr (Or.inr (Or.inr (Or.inr (Or.inr (Or.inr (Or.inr (Or.inr (Or.inr (Or.inr (Or.inr (Or.inl ⟨dkN_sub dv142 rfl, dkN_sub d35 rfl, dkN_sub d47 rfl, (show dkN [(1, 1)] (I142 340 4) from dkN_sub f142_340_4 rfl), q33, q34, q45, q46, q140, q143, xv142, y144, trivial⟩)))))))))))))⟩, dkW_eq ht hW⟩, hS.F ht⟩) hS.2.2 dX6_copy_38
            ·
              exact (dkN_nil (show dkN [] v49 from dkN_eq1 dv49 (dkN_lit (x := 0) (0) rfl) (congrArg Int32.toInt c141) rfl)).elim
        ·
          exact (dkN_nil (show dkN [] v37 from dkN_eq1 dv37 (dkN_lit (x := 0) (0) rfl) (congrArg Int32.toInt c48) rfl)).elim
set_option maxHeartbeats 4000000 in
set_option maxRecDepth 100000 in
theorem fx_X5_isDog_1 (l : Launch) (g : dkG) (z : Nat) (I0 : dkI) (p0 : Int32)  (hO : dkOk I0) : Met l yX5_isDog wsX5_isDog (dkR 0) (dkPc g z [.ref (z + 0), .int p0] I0) (dkQi g z (fun r I1 => dkF [] I0 I1 ∧ dkOk I1 ∧ ((dkN [(0, 0)] r ∧ dkN [(-2147483648, -1)] p0 ∧ p0.toInt + 1 ≤ (0 : Int) ∧ r = 0 ∧ True) ∨ (dkN [(0, 0)] r ∧ dkN [(0, 2147483647)] p0 ∧ (0 : Int) + 0 ≤ p0.toInt ∧ (I0 25 11).toInt + 0 ≤ p0.toInt ∧ r = 0 ∧ True) ∨ (dkN [(1, 1)] r ∧ dkN [(0, 5)] p0 ∧ dkN [(1, 6)] (I1 25 11) ∧ (0 : Int) + 0 ≤ p0.toInt ∧ p0.toInt + 1 ≤ (I0 25 11).toInt ∧ r = 1 ∧ True)))) 0 0 (dkA z) := by
  refine Met.ofW (cc := cX5_isDog) (maxL := 2) (ret := (some .boolean)) (by decide) rfl ?_
  intro p e s m args below meth c s₁ B hml hv
  obtain ⟨ha, hW, hK, hT⟩ := hv
  have hx := B.exec
  have hb := B.bytes
  have hr := B.returns
  have hts := atoms_spec (ws := wsX5_isDog) B.pre
  have hown : s.vm.findClass RX5 = some m.cls := findClass_of_methodNamed B.named
  have hlocks := B.notSynchronized
  have hS : va_S (dkA z) s.heap s.heap [] := va_S.rf
  have hF : dkF [] I0 I0 := dkF_rf _ _
  have hl := lv_entry ([.ref (z + 0), .int p0]) (n := 2) (Nat.le_of_ble_eq_true rfl)
  have hgo : entryFrame m args 2 = entryFrame m ([.ref (z + 0), .int p0] : List Value).toArray 2 := by rw [ha]
  rw [hgo, lg_entry_eq]
  generalize (lg_sl ([.ref (z + 0), .int p0]) ++ List.replicate (2 - (lg_sl ([.ref (z + 0), .int p0])).length) Slot.unset).toArray = ls at hl ⊢
  have hl : lv_has ls 2 [(0, .ref (z + 0)), (1, .int p0)] := hl
  refine lv_iload_n hx hb dX5_isDog_0 rfl (lv_at hl 1 rfl) ?_
  refine lv_if_lt (tgt := 19) hx hb dX5_isDog_1 (by decide) (fun c1 => ?_) (fun c1 => ?_)
  ·
    have q2 : p0.toInt + 1 ≤ (0 : Int) := (dkc_lt c1)
    have d3 : dkN [(-2147483648, -1)] p0 := dkN_le1 1 (dkN_top p0) (dkN_lit (x := 0) (0) rfl) (dkc_lt c1) rfl
    refine lv_iconst (v := 0) hx hb dX5_isDog_19 (by decide) ?_
    exact W.zret (v := 0) (ty := .boolean) hx hb hr rfl (fun t ht hW9 => ⟨⟨0, I0, rfl, ⟨hF, hO, Or.inl ⟨dkN_sub (dkN_lit (x := 0) (0) rfl) rfl, dkN_sub d3 rfl, q2, rfl, trivial⟩⟩, dkW_eq ht hW⟩, hS.F ht⟩) hS.2.2 dX5_isDog_20
  ·
    have q4 : (0 : Int) + 0 ≤ p0.toInt := (dkc_nlt c1)
    have d5 : dkN [(0, 2147483647)] p0 := dkN_le2 0 (dkN_lit (x := 0) (0) rfl) (dkN_top p0) (dkc_nlt c1) rfl
    refine lv_iload_n hx hb dX5_isDog_4 rfl (lv_at hl 1 rfl) ?_
    refine lv_aload_n hx hb dX5_isDog_5 rfl (lv_at hl 0 rfl) ?_
    refine dk_get (k := 0) hx hb hts iX5_isDog_5 hown hK (dk_at0 hW) rfl 5 (by decide) (hts (.fieldLink RX5 31 "DogKings" "now" "LDogKings$Town;") (List.mem_of_getElem? (i := 1) rfl)) rfl dX5_isDog_6 ?_
    refine dk_get (k := 25) hx hb hts iX5_isDog_4 hown hK (dk_at25 hW) rfl 11 (by decide) (hts (.fieldLink RX5 120 "DogKings$Town" "dogs" "I") (List.mem_of_getElem? (i := 2) rfl)) rfl dX5_isDog_9 ?_
    refine lv_topi (fun v6 ev6 => ?_)
    have dv6 : dkN [(0, 6)] v6 := by rw [ev6]; exact (hO 25 11)
    have xv6 : v6 = I0 25 11 := ev6.trans rfl
    refine lv_icmp_ge (tgt := 19) hx hb dX5_isDog_12 (by decide) (fun c7 => ?_) (fun c7 => ?_)
    ·
      have q8 : (I0 25 11).toInt + 0 ≤ p0.toInt := by first | (rw [← xv6]; exact (dkc_le c7)) | (subst xv6; exact (dkc_le c7))
      refine lv_iconst (v := 0) hx hb dX5_isDog_19 (by decide) ?_
      exact W.zret (v := 0) (ty := .boolean) hx hb hr rfl (fun t ht hW9 => ⟨⟨0, I0, rfl, ⟨hF, hO, Or.inr (Or.inl ⟨dkN_sub (dkN_lit (x := 0) (0) rfl) rfl, dkN_sub d5 rfl, q4, q8, rfl, trivial⟩)⟩, dkW_eq ht hW⟩, hS.F ht⟩) hS.2.2 dX5_isDog_20
    ·
      have q9 : p0.toInt + 1 ≤ (I0 25 11).toInt := by first | (rw [← xv6]; exact (dkc_nle c7)) | (subst xv6; exact (dkc_nle c7))
      have d10 : dkN [(1, 6)] v6 := dkN_le2 1 d5 dv6 (dkc_nle c7) rfl
      have f11 : dkN [(1, 6)] (I0 25 11) := by rw [← ev6]; exact d10
      have d12 : dkN [(0, 5)] p0 := dkN_le1 1 d5 dv6 (dkc_nle c7) rfl
      refine lv_iconst (v := 1) hx hb dX5_isDog_15 (by decide) ?_
      refine lv_goto (tgt := 20) hx hb dX5_isDog_16 (by decide) ?_
      exact W.zret (v := 1) (ty := .boolean) hx hb hr rfl (fun t ht hW9 => ⟨⟨1, I0, rfl, ⟨hF, hO, Or.inr (Or.inr (⟨dkN_sub (dkN_lit (x := 1) (1) rfl) rfl, dkN_sub d12 rfl, (show dkN [(1, 6)] (I0 25 11) from dkN_sub f11 rfl), q4, q9, rfl, trivial⟩))⟩, dkW_eq ht hW⟩, hS.F ht⟩) hS.2.2 dX5_isDog_20
set_option maxHeartbeats 4000000 in
set_option maxRecDepth 100000 in
theorem fx_X5_isUpTo_15 (l : Launch) (g : dkG) (z : Nat) (I0 : dkI) (p0 : Int32) (p1 : Int32) (dp1 : dkN [(1, 1)] p1)  (hO : dkOk I0) : Met l yX5_isUpTo wsX5_isUpTo (dkR 0) (dkPc g z [.int p0, .int p1] I0) (dkQi g z (fun r I1 => dkF [] I0 I1 ∧ dkOk I1 ∧ ((dkN [(0, 0)] r ∧ dkN [(-2147483648, -1)] p0 ∧ p0.toInt + 1 ≤ (0 : Int) ∧ r = 0 ∧ True) ∨ (dkN [(0, 0)] r ∧ dkN [(2, 2147483647)] p0 ∧ (0 : Int) + 0 ≤ p0.toInt ∧ p1.toInt + 1 ≤ p0.toInt ∧ r = 0 ∧ True) ∨ (dkN [(1, 1)] r ∧ dkN [(0, 1)] p0 ∧ (0 : Int) + 0 ≤ p0.toInt ∧ p0.toInt + 0 ≤ p1.toInt ∧ r = 1 ∧ True)))) 0 0 (dkA z) := by
  refine Met.ofW (cc := cX5_isUpTo) (maxL := 2) (ret := (some .boolean)) (by decide) rfl ?_
  intro p e s m args below meth c s₁ B hml hv
  obtain ⟨ha, hW, hK, hT⟩ := hv
  have hx := B.exec
  have hb := B.bytes
  have hr := B.returns
  have hts := atoms_spec (ws := wsX5_isUpTo) B.pre
  have hown : s.vm.findClass RX5 = some m.cls := findClass_of_methodNamed B.named
  have hlocks := B.notSynchronized
  have hS : va_S (dkA z) s.heap s.heap [] := va_S.rf
  have hF : dkF [] I0 I0 := dkF_rf _ _
  have hl := lv_entry ([.int p0, .int p1]) (n := 2) (Nat.le_of_ble_eq_true rfl)
  have hgo : entryFrame m args 2 = entryFrame m ([.int p0, .int p1] : List Value).toArray 2 := by rw [ha]
  rw [hgo, lg_entry_eq]
  generalize (lg_sl ([.int p0, .int p1]) ++ List.replicate (2 - (lg_sl ([.int p0, .int p1])).length) Slot.unset).toArray = ls at hl ⊢
  have hl : lv_has ls 2 [(0, .int p0), (1, .int p1)] := hl
  refine lv_iload_n hx hb dX5_isUpTo_0 rfl (lv_at hl 0 rfl) ?_
  refine lv_if_lt (tgt := 13) hx hb dX5_isUpTo_1 (by decide) (fun c1 => ?_) (fun c1 => ?_)
  ·
    have q2 : p0.toInt + 1 ≤ (0 : Int) := (dkc_lt c1)
    have d3 : dkN [(-2147483648, -1)] p0 := dkN_le1 1 (dkN_top p0) (dkN_lit (x := 0) (0) rfl) (dkc_lt c1) rfl
    refine lv_iconst (v := 0) hx hb dX5_isUpTo_13 (by decide) ?_
    exact W.zret (v := 0) (ty := .boolean) hx hb hr rfl (fun t ht hW9 => ⟨⟨0, I0, rfl, ⟨hF, hO, Or.inl ⟨dkN_sub (dkN_lit (x := 0) (0) rfl) rfl, dkN_sub d3 rfl, q2, rfl, trivial⟩⟩, dkW_eq ht hW⟩, hS.F ht⟩) hS.2.2 dX5_isUpTo_14
  ·
    have q4 : (0 : Int) + 0 ≤ p0.toInt := (dkc_nlt c1)
    have d5 : dkN [(0, 2147483647)] p0 := dkN_le2 0 (dkN_lit (x := 0) (0) rfl) (dkN_top p0) (dkc_nlt c1) rfl
    refine lv_iload_n hx hb dX5_isUpTo_4 rfl (lv_at hl 0 rfl) ?_
    refine lv_iload_n hx hb dX5_isUpTo_5 rfl (lv_at hl 1 rfl) ?_
    refine lv_icmp_gt (tgt := 13) hx hb dX5_isUpTo_6 (by decide) (fun c6 => ?_) (fun c6 => ?_)
    ·
      have q7 : p1.toInt + 1 ≤ p0.toInt := (dkc_lt c6)
      have d8 : dkN [(2, 2147483647)] p0 := dkN_le2 1 dp1 d5 (dkc_lt c6) rfl
      refine lv_iconst (v := 0) hx hb dX5_isUpTo_13 (by decide) ?_
      exact W.zret (v := 0) (ty := .boolean) hx hb hr rfl (fun t ht hW9 => ⟨⟨0, I0, rfl, ⟨hF, hO, Or.inr (Or.inl ⟨dkN_sub (dkN_lit (x := 0) (0) rfl) rfl, dkN_sub d8 rfl, q4, q7, rfl, trivial⟩)⟩, dkW_eq ht hW⟩, hS.F ht⟩) hS.2.2 dX5_isUpTo_14
    ·
      have q9 : p0.toInt + 0 ≤ p1.toInt := (dkc_nlt c6)
      have d10 : dkN [(0, 1)] p0 := dkN_le1 0 d5 dp1 (dkc_nlt c6) rfl
      refine lv_iconst (v := 1) hx hb dX5_isUpTo_9 (by decide) ?_
      refine lv_goto (tgt := 14) hx hb dX5_isUpTo_10 (by decide) ?_
      exact W.zret (v := 1) (ty := .boolean) hx hb hr rfl (fun t ht hW9 => ⟨⟨1, I0, rfl, ⟨hF, hO, Or.inr (Or.inr (⟨dkN_sub (dkN_lit (x := 1) (1) rfl) rfl, dkN_sub d10 rfl, q4, q9, rfl, trivial⟩))⟩, dkW_eq ht hW⟩, hS.F ht⟩) hS.2.2 dX5_isUpTo_14
set_option maxHeartbeats 4000000 in
set_option maxRecDepth 100000 in
theorem fx_X5_hasItems_5 (l : Launch) (g : dkG) (z : Nat) (I0 : dkI) (p0 : Int32) (p1 : Int32) (p2 : Int32) (dp0 : dkN [(0, 7)] p0) (dp2 : dkN [(1, 12)] p2)  (hO : dkOk I0) : Met l yX5_hasItems wsX5_hasItems (dkR 0) (dkPc g z [.ref (z + 0), .int p0, .int p1, .int p2] I0) (dkQi g z (fun r I1 => dkF [] I0 I1 ∧ dkOk I1 ∧ ((dkN [(0, 0)] r ∧ dkN [(-2147483648, -1)] p1 ∧ p1.toInt + 1 ≤ (0 : Int) ∧ r = 0 ∧ True) ∨ (dkN [(0, 0)] r ∧ dkN [(0, 2147483647)] p1 ∧ (0 : Int) + 0 ≤ p1.toInt ∧ (0 : Int) + 0 ≤ p2.toInt ∧ ((I0 11 (Int32.toNatClampNeg p0)) - p2).toInt = (I0 11 (Int32.toNatClampNeg p0)).toInt - p2.toInt ∧ ((I0 11 (Int32.toNatClampNeg p0)) - p2).toInt + 1 ≤ p1.toInt ∧ r = 0 ∧ True) ∨ (dkN [(1, 1)] r ∧ dkN [(0, 39)] p1 ∧ p1.toInt + p2.toInt ≤ 40 ∧ (0 : Int) + 0 ≤ p1.toInt ∧ (0 : Int) + 0 ≤ p2.toInt ∧ ((I0 11 (Int32.toNatClampNeg p0)) - p2).toInt = (I0 11 (Int32.toNatClampNeg p0)).toInt - p2.toInt ∧ p1.toInt + 0 ≤ ((I0 11 (Int32.toNatClampNeg p0)) - p2).toInt ∧ r = 1 ∧ True)))) 0 0 (dkA z) := by
  refine Met.ofW (cc := cX5_hasItems) (maxL := 4) (ret := (some .boolean)) (by decide) rfl ?_
  intro p e s m args below meth c s₁ B hml hv
  obtain ⟨ha, hW, hK, hT⟩ := hv
  have hx := B.exec
  have hb := B.bytes
  have hr := B.returns
  have hts := atoms_spec (ws := wsX5_hasItems) B.pre
  have hown : s.vm.findClass RX5 = some m.cls := findClass_of_methodNamed B.named
  have hlocks := B.notSynchronized
  have hS : va_S (dkA z) s.heap s.heap [] := va_S.rf
  have hF : dkF [] I0 I0 := dkF_rf _ _
  have hl := lv_entry ([.ref (z + 0), .int p0, .int p1, .int p2]) (n := 4) (Nat.le_of_ble_eq_true rfl)
  have hgo : entryFrame m args 4 = entryFrame m ([.ref (z + 0), .int p0, .int p1, .int p2] : List Value).toArray 4 := by rw [ha]
  rw [hgo, lg_entry_eq]
  generalize (lg_sl ([.ref (z + 0), .int p0, .int p1, .int p2]) ++ List.replicate (4 - (lg_sl ([.ref (z + 0), .int p0, .int p1, .int p2])).length) Slot.unset).toArray = ls at hl ⊢
  have hl : lv_has ls 4 [(0, .ref (z + 0)), (1, .int p0), (2, .int p1), (3, .int p2)] := hl
  refine lv_iload_n hx hb dX5_hasItems_0 rfl (lv_at hl 2 rfl) ?_
  refine lv_if_lt (tgt := 24) hx hb dX5_hasItems_1 (by decide) (fun c1 => ?_) (fun c1 => ?_)
  ·
    have q2 : p1.toInt + 1 ≤ (0 : Int) := (dkc_lt c1)
    have d3 : dkN [(-2147483648, -1)] p1 := dkN_le1 1 (dkN_top p1) (dkN_lit (x := 0) (0) rfl) (dkc_lt c1) rfl
    refine lv_iconst (v := 0) hx hb dX5_hasItems_24 (by decide) ?_
    exact W.zret (v := 0) (ty := .boolean) hx hb hr rfl (fun t ht hW9 => ⟨⟨0, I0, rfl, ⟨hF, hO, Or.inl ⟨dkN_sub (dkN_lit (x := 0) (0) rfl) rfl, dkN_sub d3 rfl, q2, rfl, trivial⟩⟩, dkW_eq ht hW⟩, hS.F ht⟩) hS.2.2 dX5_hasItems_25
  ·
    have q4 : (0 : Int) + 0 ≤ p1.toInt := (dkc_nlt c1)
    have d5 : dkN [(0, 2147483647)] p1 := dkN_le2 0 (dkN_lit (x := 0) (0) rfl) (dkN_top p1) (dkc_nlt c1) rfl
    refine lv_iload_n hx hb dX5_hasItems_4 rfl (lv_at hl 3 rfl) ?_
    refine lv_if_lt (tgt := 24) hx hb dX5_hasItems_5 (by decide) (fun c6 => ?_) (fun c6 => ?_)
    ·
      exact (dkN_nil (show dkN [] p2 from dkN_le1 1 dp2 (dkN_lit (x := 0) (0) rfl) (dkc_lt c6) rfl)).elim
    ·
      have q7 : (0 : Int) + 0 ≤ p2.toInt := (dkc_nlt c6)
      refine lv_iload_n hx hb dX5_hasItems_8 rfl (lv_at hl 2 rfl) ?_
      refine lv_aload_n hx hb dX5_hasItems_9 rfl (lv_at hl 0 rfl) ?_
      refine dk_get (k := 0) hx hb hts iX5_hasItems_5 hown hK (dk_at0 hW) rfl 2 (by decide) (hts (.fieldLink RX5 18 "DogKings" "sizes" "[I") (List.mem_of_getElem? (i := 1) rfl)) rfl dX5_hasItems_10 ?_
      refine lv_iload_n hx hb dX5_hasItems_13 rfl (lv_at hl 1 rfl) ?_
      refine dk_ild (k := 11) hx hb hK (dk_at11 hW) (dkN_in (n := 8) dp0 rfl) dX5_hasItems_14 ?_
      refine lv_topi (fun v8 ev8 => ?_)
      have dv8 : dkN [(-1, 40)] v8 := by rw [ev8]; exact (hO 11 _)
      have xv8 : v8 = I0 11 (Int32.toNatClampNeg p0) := ev8.trans rfl
      refine lv_iload_n hx hb dX5_hasItems_15 rfl (lv_at hl 3 rfl) ?_
      refine lv_isub hx hb dX5_hasItems_16 ?_
      refine lv_topi (fun v9 ev9 => ?_)
      have dv9 : dkN [(-13, 39)] v9 := by rw [ev9]; exact dkN_subt dv8 dp2 rfl
      have xv9 : v9 = (I0 11 (Int32.toNatClampNeg p0)) - p2 := by rw [ev9, xv8]
      have q10 : ((I0 11 (Int32.toNatClampNeg p0)) - p2).toInt = (I0 11 (Int32.toNatClampNeg p0)).toInt - p2.toInt := by first | (rw [← xv9, ← xv8]; exact (by rw [ev9]; exact dk_subE dv8 dp2 rfl)) | (subst xv9 xv8; exact (by rw [ev9]; exact dk_subE dv8 dp2 rfl))
      refine lv_icmp_gt (tgt := 24) hx hb dX5_hasItems_17 (by decide) (fun c11 => ?_) (fun c11 => ?_)
      ·
        have q12 : ((I0 11 (Int32.toNatClampNeg p0)) - p2).toInt + 1 ≤ p1.toInt := by first | (rw [← xv9]; exact (dkc_lt c11)) | (subst xv9; exact (dkc_lt c11))
        refine lv_iconst (v := 0) hx hb dX5_hasItems_24 (by decide) ?_
        exact W.zret (v := 0) (ty := .boolean) hx hb hr rfl (fun t ht hW9 => ⟨⟨0, I0, rfl, ⟨hF, hO, Or.inr (Or.inl ⟨dkN_sub (dkN_lit (x := 0) (0) rfl) rfl, dkN_sub d5 rfl, q4, q7, q10, q12, rfl, trivial⟩)⟩, dkW_eq ht hW⟩, hS.F ht⟩) hS.2.2 dX5_hasItems_25
      ·
        have q13 : p1.toInt + 0 ≤ ((I0 11 (Int32.toNatClampNeg p0)) - p2).toInt := by first | (rw [← xv9]; exact (dkc_nlt c11)) | (subst xv9; exact (dkc_nlt c11))
        have d14 : dkN [(0, 39)] v9 := dkN_le2 0 d5 dv9 (dkc_nlt c11) rfl
        have d15 : dkN [(0, 39)] p1 := dkN_le1 0 d5 dv9 (dkc_nlt c11) rfl
        refine lv_iconst (v := 1) hx hb dX5_hasItems_20 (by decide) ?_
        refine lv_goto (tgt := 25) hx hb dX5_hasItems_21 (by decide) ?_
        exact W.zret (v := 1) (ty := .boolean) hx hb hr rfl (fun t ht hW9 => ⟨⟨1, I0, rfl, ⟨hF, hO, Or.inr (Or.inr (⟨dkN_sub (dkN_lit (x := 1) (1) rfl) rfl, dkN_sub d15 rfl, (dk_relsubR ev9 dv8 dp2 (dkc_nlt c11) rfl), q4, q7, q10, q13, rfl, trivial⟩))⟩, dkW_eq ht hW⟩, hS.F ht⟩) hS.2.2 dX5_hasItems_25
set_option maxHeartbeats 4000000 in
set_option maxRecDepth 100000 in
theorem fx_X5_troubleWith_1 (l : Launch) (g : dkG) (z : Nat) (I0 : dkI) (p0 : Int32) (p1 : Int32) (p2 : Int32) (dp0 : dkN [(0, 7)] p0) (dp2 : dkN [(1, 12)] p2)  (hO : dkOk I0) : Met l yX5_troubleWith wsX5_troubleWith (dkR 1) (dkPc g z [.ref (z + 0), .int p0, .int p1, .int p2] I0) (dkQi g z (fun r I1 => dkF [] I0 I1 ∧ dkOk I1 ∧ ((dkN [(2, 2)] r ∧ dkN [(-2147483648, -1)] p1 ∧ (I0 11 (Int32.toNatClampNeg p0)).toInt ≠ (-1 : Int) ∧ p1.toInt + 1 ≤ (0 : Int) ∧ r = 2 ∧ True) ∨ (dkN [(2, 2)] r ∧ dkN [(0, 2147483647)] p1 ∧ (I0 11 (Int32.toNatClampNeg p0)).toInt ≠ (-1 : Int) ∧ (0 : Int) + 0 ≤ p1.toInt ∧ (0 : Int) + 0 ≤ p2.toInt ∧ ((I0 11 (Int32.toNatClampNeg p0)) - p2).toInt = (I0 11 (Int32.toNatClampNeg p0)).toInt - p2.toInt ∧ ((I0 11 (Int32.toNatClampNeg p0)) - p2).toInt + 1 ≤ p1.toInt ∧ r = 2 ∧ True) ∨ (dkN [(0, 0)] r ∧ dkN [(0, 39)] p1 ∧ (I0 11 (Int32.toNatClampNeg p0)).toInt ≠ (-1 : Int) ∧ (0 : Int) + 0 ≤ p1.toInt ∧ (0 : Int) + 0 ≤ p2.toInt ∧ ((I0 11 (Int32.toNatClampNeg p0)) - p2).toInt = (I0 11 (Int32.toNatClampNeg p0)).toInt - p2.toInt ∧ p1.toInt + 0 ≤ ((I0 11 (Int32.toNatClampNeg p0)) - p2).toInt ∧ r = 0 ∧ True) ∨ (dkN [(1, 1)] r ∧ (I0 11 (Int32.toNatClampNeg p0)).toInt = (-1 : Int) ∧ r = 1 ∧ True)))) 0 0 (dkA z) := by
  refine Met.ofW (cc := cX5_troubleWith) (maxL := 4) (ret := (some .int)) (by decide) rfl ?_
  intro p e s m args below meth c s₁ B hml hv
  obtain ⟨ha, hW, hK, hT⟩ := hv
  have hx := B.exec
  have hb := B.bytes
  have hr := B.returns
  have hts := atoms_spec (ws := wsX5_troubleWith) B.pre
  have hown : s.vm.findClass RX5 = some m.cls := findClass_of_methodNamed B.named
  have hlocks := B.notSynchronized
  have hS : va_S (dkA z) s.heap s.heap [] := va_S.rf
  have hF : dkF [] I0 I0 := dkF_rf _ _
  have hl := lv_entry ([.ref (z + 0), .int p0, .int p1, .int p2]) (n := 4) (Nat.le_of_ble_eq_true rfl)
  have hgo : entryFrame m args 4 = entryFrame m ([.ref (z + 0), .int p0, .int p1, .int p2] : List Value).toArray 4 := by rw [ha]
  rw [hgo, lg_entry_eq]
  generalize (lg_sl ([.ref (z + 0), .int p0, .int p1, .int p2]) ++ List.replicate (4 - (lg_sl ([.ref (z + 0), .int p0, .int p1, .int p2])).length) Slot.unset).toArray = ls at hl ⊢
  have hl : lv_has ls 4 [(0, .ref (z + 0)), (1, .int p0), (2, .int p1), (3, .int p2)] := hl
  refine lv_aload_n hx hb dX5_troubleWith_0 rfl (lv_at hl 0 rfl) ?_
  refine lv_iload_n hx hb dX5_troubleWith_1 rfl (lv_at hl 1 rfl) ?_
  refine dk_Vi (As := [.int p0]) (rest := []) ⟨hx, hb, hml, hown, hts⟩ (fx_X5_isMissing_1 l g z I0 p0 dp0 hO) (cwV 1 hts gX5_troubleWith_X5_isMissing rfl rfl rfl (by decide +kernel) ⟨Nat.le_of_ble_eq_true rfl, Nat.le_of_ble_eq_true rfl⟩) (dk_at0 hW) rfl hK hT hW hS rfl hl.1 rfl (Nat.le_of_ble_eq_true rfl) dX5_troubleWith_2 ⟨Nat.zero_le _, Nat.zero_le _⟩ (fun v1 I1 H1 L1 hp1 hW hS => ?_)
  obtain ⟨hF1, hO, hc1⟩ := hp1
  have hF := dkF_call hF hF1 rfl
  have eI1 : I0 = I1 := (dkF_nil hF1).symm
  subst eI1
  rcases hc1 with ⟨dv1, x1_0, xr1, -⟩ | hc1
  ·
    have q2 : (I0 11 (Int32.toNatClampNeg p0)).toInt ≠ (-1 : Int) := x1_0
    have xv1 : v1 = 0 := by have h := xr1; exact h
    refine lv_if_eq (tgt := 10) hx hb dX5_troubleWith_5 (by decide) (fun c3 => ?_) (fun c3 => ?_)
    ·
      refine lv_aload_n hx hb dX5_troubleWith_10 rfl (lv_at hl 0 rfl) ?_
      refine lv_iload_n hx hb dX5_troubleWith_11 rfl (lv_at hl 1 rfl) ?_
      refine lv_iload_n hx hb dX5_troubleWith_12 rfl (lv_at hl 2 rfl) ?_
      refine lv_iload_n hx hb dX5_troubleWith_13 rfl (lv_at hl 3 rfl) ?_
      refine dk_Vi (As := [.int p0, .int p1, .int p2]) (rest := []) ⟨hx, hb, hml, hown, hts⟩ (fx_X5_hasItems_5 l g z I0 p0 p1 p2 dp0 dp2 hO) (cwV 3 hts gX5_troubleWith_X5_hasItems rfl rfl rfl (by decide +kernel) ⟨Nat.le_of_ble_eq_true rfl, Nat.le_of_ble_eq_true rfl⟩) (dk_at0 hW) rfl hK hT hW hS rfl hl.1 rfl (Nat.le_of_ble_eq_true rfl) dX5_troubleWith_14 ⟨Nat.zero_le _, Nat.zero_le _⟩ (fun v4 I4 H4 L4 hp4 hW hS => ?_)
      obtain ⟨hF4, hO, hc4⟩ := hp4
      have hF := dkF_call hF hF4 rfl
      have eI4 : I0 = I4 := (dkF_nil hF4).symm
      subst eI4
      rcases hc4 with ⟨dv4, a4_1, x4_0, xr4, -⟩ | hc4
      ·
        have q5 : p1.toInt + 1 ≤ (0 : Int) := x4_0
        have xv4 : v4 = 0 := by have h := xr4; exact h
        have d6 : dkN [(-2147483648, -1)] p1 := dkN_eq1 (dkN_top p1) a4_1 rfl rfl
        refine lv_if_eq (tgt := 24) hx hb dX5_troubleWith_17 (by decide) (fun c7 => ?_) (fun c7 => ?_)
        ·
          refine lv_iconst (v := 2) hx hb dX5_troubleWith_24 (by decide) ?_
          exact W.iret (v := 2) hx hb hr (fun t ht hW9 => ⟨⟨2, I0, rfl, ⟨hF, hO, Or.inl ⟨dkN_sub (dkN_lit (x := 2) (2) rfl) rfl, dkN_sub d6 rfl, q2, q5, rfl, trivial⟩⟩, dkW_eq ht hW⟩, hS.F ht⟩) hS.2.2 dX5_troubleWith_25
        ·
          exact absurd ((xv4).trans (rfl).symm) c7
      rcases hc4 with ⟨dv4, a4_1, x4_0, x4_1, x4_2, x4_3, xr4, -⟩ | hc4
      ·
        have q8 : (0 : Int) + 0 ≤ p1.toInt := x4_0
        have q9 : (0 : Int) + 0 ≤ p2.toInt := x4_1
        have q10 : ((I0 11 (Int32.toNatClampNeg p0)) - p2).toInt = (I0 11 (Int32.toNatClampNeg p0)).toInt - p2.toInt := x4_2
        have q11 : ((I0 11 (Int32.toNatClampNeg p0)) - p2).toInt + 1 ≤ p1.toInt := x4_3
        have xv4 : v4 = 0 := by have h := xr4; exact h
        have d12 : dkN [(0, 2147483647)] p1 := dkN_eq1 (dkN_top p1) a4_1 rfl rfl
        refine lv_if_eq (tgt := 24) hx hb dX5_troubleWith_17 (by decide) (fun c13 => ?_) (fun c13 => ?_)
        ·
          refine lv_iconst (v := 2) hx hb dX5_troubleWith_24 (by decide) ?_
          exact W.iret (v := 2) hx hb hr (fun t ht hW9 => ⟨⟨2, I0, rfl, ⟨hF, hO, Or.inr (Or.inl ⟨dkN_sub (dkN_lit (x := 2) (2) rfl) rfl, dkN_sub d12 rfl, q2, q8, q9, q10, q11, rfl, trivial⟩)⟩, dkW_eq ht hW⟩, hS.F ht⟩) hS.2.2 dX5_troubleWith_25
        ·
          exact absurd ((xv4).trans (rfl).symm) c13
      ·
        obtain ⟨dv4, a4_1, q4_0, x4_0, x4_1, x4_2, x4_3, xr4, -⟩ := hc4
        have q14 : (0 : Int) + 0 ≤ p1.toInt := x4_0
        have q15 : (0 : Int) + 0 ≤ p2.toInt := x4_1
        have q16 : ((I0 11 (Int32.toNatClampNeg p0)) - p2).toInt = (I0 11 (Int32.toNatClampNeg p0)).toInt - p2.toInt := x4_2
        have q17 : p1.toInt + 0 ≤ ((I0 11 (Int32.toNatClampNeg p0)) - p2).toInt := x4_3
        have xv4 : v4 = 1 := by have h := xr4; exact h
        have d18 : dkN [(0, 39)] p1 := dkN_eq1 (dkN_top p1) a4_1 rfl rfl
        refine lv_if_eq (tgt := 24) hx hb dX5_troubleWith_17 (by decide) (fun c19 => ?_) (fun c19 => ?_)
        ·
          exact (dkN_nil (show dkN [] v4 from dkN_eq1 dv4 (dkN_lit (x := 0) (0) rfl) (congrArg Int32.toInt c19) rfl)).elim
        ·
          refine lv_iconst (v := 0) hx hb dX5_troubleWith_20 (by decide) ?_
          refine lv_goto (tgt := 25) hx hb dX5_troubleWith_21 (by decide) ?_
          exact W.iret (v := 0) hx hb hr (fun t ht hW9 => ⟨⟨0, I0, rfl, ⟨hF, hO, Or.inr (Or.inr (Or.inl ⟨dkN_sub (dkN_lit (x := 0) (0) rfl) rfl, dkN_sub d18 rfl, q2, q14, q15, q16, q17, rfl, trivial⟩))⟩, dkW_eq ht hW⟩, hS.F ht⟩) hS.2.2 dX5_troubleWith_25
    ·
      exact absurd ((xv1).trans (rfl).symm) c3
  ·
    obtain ⟨dv1, x1_0, xr1, -⟩ := hc1
    have q20 : (I0 11 (Int32.toNatClampNeg p0)).toInt = (-1 : Int) := x1_0
    have xv1 : v1 = 1 := by have h := xr1; exact h
    refine lv_if_eq (tgt := 10) hx hb dX5_troubleWith_5 (by decide) (fun c21 => ?_) (fun c21 => ?_)
    ·
      exact (dkN_nil (show dkN [] v1 from dkN_eq1 dv1 (dkN_lit (x := 0) (0) rfl) (congrArg Int32.toInt c21) rfl)).elim
    ·
      refine lv_iconst (v := 1) hx hb dX5_troubleWith_8 (by decide) ?_
      exact W.iret (v := 1) hx hb hr (fun t ht hW9 => ⟨⟨1, I0, rfl, ⟨hF, hO, Or.inr (Or.inr (Or.inr (⟨dkN_sub (dkN_lit (x := 1) (1) rfl) rfl, q20, rfl, trivial⟩)))⟩, dkW_eq ht hW⟩, hS.F ht⟩) hS.2.2 dX5_troubleWith_9
set_option maxHeartbeats 4000000 in
set_option maxRecDepth 100000 in
theorem c_X3_leastOf_2 (l : Launch) (g : dkG) (z : Nat) (I0 : dkI) (p0 : Int32) (dp0 : dkN [(1, 1)] p0)  (hO : dkOk I0) : Met l yX3_leastOf wsX3_leastOf (dkR 0) (dkPc g z [.int p0] I0) (dkQi g z (fun r I1 => dkF [] I0 I1 ∧ dkOk I1 ∧ ((dkN [(0, 0)] r ∧ True)))) 0 0 (dkA z) := by
  refine Met.ofW (cc := cX3_leastOf) (maxL := 1) (ret := (some .int)) (by decide) rfl ?_
  intro p e s m args below meth c s₁ B hml hv
  obtain ⟨ha, hW, hK, hT⟩ := hv
  have hx := B.exec
  have hb := B.bytes
  have hr := B.returns
  have hts := atoms_spec (ws := wsX3_leastOf) B.pre
  have hown : s.vm.findClass RX3 = some m.cls := findClass_of_methodNamed B.named
  have hlocks := B.notSynchronized
  have hS : va_S (dkA z) s.heap s.heap [] := va_S.rf
  have hF : dkF [] I0 I0 := dkF_rf _ _
  have hl := lv_entry ([.int p0]) (n := 1) (Nat.le_of_ble_eq_true rfl)
  have hgo : entryFrame m args 1 = entryFrame m ([.int p0] : List Value).toArray 1 := by rw [ha]
  rw [hgo, lg_entry_eq]
  generalize (lg_sl ([.int p0]) ++ List.replicate (1 - (lg_sl ([.int p0])).length) Slot.unset).toArray = ls at hl ⊢
  have hl : lv_has ls 1 [(0, .int p0)] := hl
  refine lv_iload_n hx hb dX3_leastOf_0 rfl (lv_at hl 0 rfl) ?_
  refine lv_if_ne (tgt := 8) hx hb dX3_leastOf_1 (by decide) (fun c1 => ?_) (fun c1 => ?_)
  ·
    refine lv_iconst (v := 0) hx hb dX3_leastOf_8 (by decide) ?_
    exact W.iret (v := 0) hx hb hr (fun t ht hW9 => ⟨⟨0, I0, rfl, ⟨hF, hO, ⟨dkN_sub (dkN_lit (x := 0) (0) rfl) rfl, trivial⟩⟩, dkW_eq ht hW⟩, hS.F ht⟩) hS.2.2 dX3_leastOf_9
  ·
    exact (dkN_nil (show dkN [] p0 from dkN_eq1 dp0 (dkN_lit (x := 0) (0) rfl) (congrArg Int32.toInt c1) rfl)).elim
set_option maxHeartbeats 4000000 in
set_option maxRecDepth 100000 in
theorem c_X3_mostOf_2 (l : Launch) (g : dkG) (z : Nat) (I0 : dkI) (p0 : Int32) (dp0 : dkN [(1, 1)] p0)  (hO : dkOk I0) : Met l yX3_mostOf wsX3_mostOf (dkR 0) (dkPc g z [.ref (z + 325), .int p0] I0) (dkQi g z (fun r I1 => dkF [] I0 I1 ∧ dkOk I1 ∧ ((dkN [(-1, 8)] r ∧ True)))) 0 0 (dkA z) := by
  refine Met.ofW (cc := cX3_mostOf) (maxL := 2) (ret := (some .int)) (by decide) rfl ?_
  intro p e s m args below meth c s₁ B hml hv
  obtain ⟨ha, hW, hK, hT⟩ := hv
  have hx := B.exec
  have hb := B.bytes
  have hr := B.returns
  have hts := atoms_spec (ws := wsX3_mostOf) B.pre
  have hown : s.vm.findClass RX3 = some m.cls := findClass_of_methodNamed B.named
  have hlocks := B.notSynchronized
  have hS : va_S (dkA z) s.heap s.heap [] := va_S.rf
  have hF : dkF [] I0 I0 := dkF_rf _ _
  have hl := lv_entry ([.ref (z + 325), .int p0]) (n := 2) (Nat.le_of_ble_eq_true rfl)
  have hgo : entryFrame m args 2 = entryFrame m ([.ref (z + 325), .int p0] : List Value).toArray 2 := by rw [ha]
  rw [hgo, lg_entry_eq]
  generalize (lg_sl ([.ref (z + 325), .int p0]) ++ List.replicate (2 - (lg_sl ([.ref (z + 325), .int p0])).length) Slot.unset).toArray = ls at hl ⊢
  have hl : lv_has ls 2 [(0, .ref (z + 325)), (1, .int p0)] := hl
  refine lv_iload_n hx hb dX3_mostOf_0 rfl (lv_at hl 1 rfl) ?_
  by_cases c1 : p0 = 1
  ·
    have qc1 : p0.toInt = 1 := by rw [c1]; rfl
    have d2 : dkN [(1, 1)] p0 := dkN_lit (1) qc1
    refine lv_tableIn (tgt := 30) hx hb dX3_mostOf_1 (by rw [qc1]; decide) (by rw [qc1]; decide) (by rw [qc1]; rfl) (by decide) ?_
    refine lv_aload_n hx hb dX3_mostOf_30 rfl (lv_at hl 0 rfl) ?_
    refine dk_get (k := 325) hx hb hts iX3_mostOf_3 hown hK (dk_at325 hW) rfl 0 (by decide) (hts (.fieldLink RX3 22 "DogKings$Seer" "now" "LDogKings$Town;") (List.mem_of_getElem? (i := 1) rfl)) rfl dX3_mostOf_31 ?_
    refine dk_get (k := 25) hx hb hts iX3_mostOf_4 hown hK (dk_at25 hW) rfl 0 (by decide) (hts (.fieldLink RX3 61 "DogKings$Town" "places" "I") (List.mem_of_getElem? (i := 2) rfl)) rfl dX3_mostOf_34 ?_
    refine lv_topi (fun v3 ev3 => ?_)
    have dv3 : dkN [(0, 9)] v3 := by rw [ev3]; exact (hO 25 0)
    refine lv_iconst (v := 1) hx hb dX3_mostOf_37 (by decide) ?_
    refine lv_isub hx hb dX3_mostOf_38 ?_
    refine lv_topi (fun v4 ev4 => ?_)
    have dv4 : dkN [(-1, 8)] v4 := by rw [ev4]; exact dkN_subt dv3 (dkN_lit (x := 1) (1) rfl) rfl
    exact W.iret (v := v4) hx hb hr (fun t ht hW9 => ⟨⟨v4, I0, rfl, ⟨hF, hO, ⟨dkN_sub dv4 rfl, trivial⟩⟩, dkW_eq ht hW⟩, hS.F ht⟩) hS.2.2 dX3_mostOf_39
  ·
    exact (dkN_nil (show dkN [] p0 from dkN_ne1 (1) dp0 (dkN_lit (x := 1) (1) rfl) (dk_ne c1) rfl)).elim
set_option maxHeartbeats 4000000 in
set_option maxRecDepth 100000 in
theorem c_X4_take_4 (l : Launch) (g : dkG) (z : Nat) (I0 : dkI) (t0 : Nat) (ht0 : dkT t0) (p0 : Int32) (p1 : Int32) (p2 : Int32) (dp0 : dkN [(1, 1)] p0) (dp1 : dkN [(0, 5)] p1) (dp2 : dkN [(0, 9)] p2)  (hO : dkOk I0) : Met l yX4_take wsX4_take (dkR 0) (dkPc g z [.ref (z + t0), .int p0, .int p1, .int p2] I0) (dkQv g z (fun I1 => dkF [(t0 + 9, t0 + 9, 0, 5)] I0 I1 ∧ dkOk I1 ∧ ((True)))) 0 0 (dkA z) := by
  refine Met.ofW (cc := cX4_take) (maxL := 4) (ret := none) (by decide) rfl ?_
  intro p e s m args below meth c s₁ B hml hv
  obtain ⟨ha, hW, hK, hT⟩ := hv
  have hx := B.exec
  have hb := B.bytes
  have hr := B.returns
  have hts := atoms_spec (ws := wsX4_take) B.pre
  have hown : s.vm.findClass RX4 = some m.cls := findClass_of_methodNamed B.named
  have hlocks := B.notSynchronized
  have hS : va_S (dkA z) s.heap s.heap [] := va_S.rf
  have hF : dkF [(t0 + 9, t0 + 9, 0, 5)] I0 I0 := dkF_rf _ _
  have hl := lv_entry ([.ref (z + t0), .int p0, .int p1, .int p2]) (n := 4) (Nat.le_of_ble_eq_true rfl)
  have hgo : entryFrame m args 4 = entryFrame m ([.ref (z + t0), .int p0, .int p1, .int p2] : List Value).toArray 4 := by rw [ha]
  rw [hgo, lg_entry_eq]
  generalize (lg_sl ([.ref (z + t0), .int p0, .int p1, .int p2]) ++ List.replicate (4 - (lg_sl ([.ref (z + t0), .int p0, .int p1, .int p2])).length) Slot.unset).toArray = ls at hl ⊢
  have hl : lv_has ls 4 [(0, .ref (z + t0)), (1, .int p0), (2, .int p1), (3, .int p2)] := hl
  refine lv_iload_n hx hb dX4_take_0 rfl (lv_at hl 1 rfl) ?_
  by_cases c1 : p0 = 1
  ·
    have qc1 : p0.toInt = 1 := by rw [c1]; rfl
    have d2 : dkN [(1, 1)] p0 := dkN_lit (1) qc1
    refine lv_tableIn (tgt := 46) hx hb dX4_take_1 (by rw [qc1]; decide) (by rw [qc1]; decide) (by rw [qc1]; rfl) (by decide) ?_
    refine lv_aload_n hx hb dX4_take_46 rfl (lv_at hl 0 rfl) ?_
    refine dk_get (k := t0) hx hb hts iX4_take_4 hown hK (dk_aT0 ht0 hW) rfl 14 (by decide) (hts (.fieldLink RX4 36 "DogKings$Town" "dogAt" "[I") (List.mem_of_getElem? (i := 2) rfl)) rfl dX4_take_47 ?_
    refine lv_iload_n hx hb dX4_take_50 rfl (lv_at hl 2 rfl) ?_
    refine lv_iload_n hx hb dX4_take_51 rfl (lv_at hl 3 rfl) ?_
    refine dk_ist (k := (t0 + 9)) hx hb hK hW (fun _ => dkC_T g z ht0 (c := 9) (by decide) _) (by have := dkT_lt ht0; omega) hS (dkN_in (n := 6) dp1 rfl) dX4_take_52 (fun I3 H3 L3 eI3 hW hS => ?_)
    have hO := dkO_setT hO ht0 (c := 9) (by decide) eI3 (dkN_sub dp2 rfl)
    have hF := dkF_set hF eI3 (dkIn_atv (i := 0) rfl (Nat.le_refl _) (Nat.le_refl _) dp1 rfl)
    refine lv_goto (tgt := 86) hx hb dX4_take_53 (by decide) ?_
    exact W.vret hx hb hr (fun t ht hW9 => ⟨⟨I3, rfl, ⟨hF, hO, trivial⟩, dkW_eq ht hW⟩, hS.F ht⟩) hS.2.2 dX4_take_86
  ·
    exact (dkN_nil (show dkN [] p0 from dkN_ne1 (1) dp0 (dkN_lit (x := 1) (1) rfl) (dk_ne c1) rfl)).elim
set_option maxHeartbeats 4000000 in
set_option maxRecDepth 100000 in
theorem c_X3_guesses_2 (l : Launch) (g : dkG) (z : Nat) (I0 : dkI) (r0 : Nat) (hr0 : 2 ≤ r0 ∧ r0 < 10) (p0 : Int32) (p1 : Int32) (p2 : Int32) (p3 : Int32) (p4 : Int32) (dp0 : dkN [(1, 1)] p0) (dp1 : dkN [(0, 5)] p1) (dp2 : dkN [(0, 5)] p2) (dp3 : dkN [(0, 39)] p3) (dp4 : dkN [(1, 12)] p4)  (hO : dkOk I0) : Met l yX3_guesses wsX3_guesses (dkR 6) (dkPc g z [.ref (z + 325), .int p0, .int p1, .int p2, .ref (z + r0), .int p3, .int p4] I0) (dkQi g z (fun r I1 => dkF [(326, 326, 0, 4), (326, 326, 11, 11), (326, 326, 15, 17), (327, 327, 0, 4), (328, 328, 0, 4), (329, 329, 0, 4), (330, 330, 0, 4), (331, 331, 0, 4), (332, 332, 0, 4), (333, 333, 0, 5), (334, 334, 0, 5), (335, 335, 0, 5), (336, 336, 0, 8)] I0 I1 ∧ dkOk I1 ∧ ((True ∧ True)))) 0 0 (dkA z) := by
  refine Met.ofW (cc := cX3_guesses) (maxL := 9) (ret := (some .int)) (by decide) rfl ?_
  intro p e s m args below meth c s₁ B hml hv
  obtain ⟨ha, hW, hK, hT⟩ := hv
  have hx := B.exec
  have hb := B.bytes
  have hr := B.returns
  have hts := atoms_spec (ws := wsX3_guesses) B.pre
  have hown : s.vm.findClass RX3 = some m.cls := findClass_of_methodNamed B.named
  have hlocks := B.notSynchronized
  have hS : va_S (dkA z) s.heap s.heap [] := va_S.rf
  have hF : dkF [(326, 326, 0, 4), (326, 326, 11, 11), (326, 326, 15, 17), (327, 327, 0, 4), (328, 328, 0, 4), (329, 329, 0, 4), (330, 330, 0, 4), (331, 331, 0, 4), (332, 332, 0, 4), (333, 333, 0, 5), (334, 334, 0, 5), (335, 335, 0, 5), (336, 336, 0, 8)] I0 I0 := dkF_rf _ _
  have hl := lv_entry ([.ref (z + 325), .int p0, .int p1, .int p2, .ref (z + r0), .int p3, .int p4]) (n := 9) (Nat.le_of_ble_eq_true rfl)
  have hgo : entryFrame m args 9 = entryFrame m ([.ref (z + 325), .int p0, .int p1, .int p2, .ref (z + r0), .int p3, .int p4] : List Value).toArray 9 := by rw [ha]
  rw [hgo, lg_entry_eq]
  generalize (lg_sl ([.ref (z + 325), .int p0, .int p1, .int p2, .ref (z + r0), .int p3, .int p4]) ++ List.replicate (9 - (lg_sl ([.ref (z + 325), .int p0, .int p1, .int p2, .ref (z + r0), .int p3, .int p4])).length) Slot.unset).toArray = ls at hl ⊢
  have hl : lv_has ls 9 [(0, .ref (z + 325)), (1, .int p0), (2, .int p1), (3, .int p2), (4, .ref (z + r0)), (5, .int p3), (6, .int p4)] := hl
  have C9 : ∀ (n : Nat), ∀ (I : dkI) (H : Heap) (locs : List Loc) (ls : Array Slot) (x9_7 : Int32) (x9_8 : Int32), (9 - x9_8.toInt).toNat < n → dkW g z I H → va_S (dkA z) s.heap H locs → dkF [(326, 326, 0, 4), (326, 326, 11, 11), (326, 326, 15, 17), (327, 327, 0, 4), (328, 328, 0, 4), (329, 329, 0, 4), (330, 330, 0, 4), (331, 331, 0, 4), (332, 332, 0, 4), (333, 333, 0, 5), (334, 334, 0, 5), (335, 335, 0, 5), (336, 336, 0, 8)] I0 I → dkOk I → dkN [(0, 9)] x9_8 → lv_has ls 9 [(0, .ref (z + 325)), (1, .int p0), (2, .int p1), (3, .int p2), (4, .ref (z + r0)), (5, .int p3), (6, .int p4), (7, .int x9_7), (8, .int x9_8)] → W p l e (headSpec wsX3_guesses (dkR 6)).room s m args below meth c H locs 0 0 (MQ below (dkQi g z (fun r I1 => dkF [(326, 326, 0, 4), (326, 326, 11, 11), (326, 326, 15, 17), (327, 327, 0, 4), (328, 328, 0, 4), (329, 329, 0, 4), (330, 330, 0, 4), (331, 331, 0, 4), (332, 332, 0, 4), (333, 333, 0, 5), (334, 334, 0, 5), (335, 335, 0, 5), (336, 336, 0, 8)] I0 I1 ∧ dkOk I1 ∧ ((True ∧ True)))) args s 0 0 (dkA z)) (F0 m 9 ls []) := by
    intro n
    induction n with
    | zero => intro I H locs ls x9_7 x9_8 hn; exact absurd hn (Nat.not_lt_zero _)
    | succ n ih9 =>
      intro I9_ H locs ls x9_7 x9_8 hn9 hW hS hF_9 hO k9_1 hl
      have hF := hF_9
      have C64 : ∀ (I : dkI) (H : Heap) (locs : List Loc) (ls : Array Slot) (x64_7 : Int32), dkW g z I H → va_S (dkA z) s.heap H locs → dkF [(326, 326, 0, 4), (326, 326, 11, 11), (326, 326, 15, 17), (327, 327, 0, 4), (328, 328, 0, 4), (329, 329, 0, 4), (330, 330, 0, 4), (331, 331, 0, 4), (332, 332, 0, 4), (333, 333, 0, 5), (334, 334, 0, 5), (335, 335, 0, 5), (336, 336, 0, 8)] I0 I → dkOk I → dkN [(0, 8)] x9_8 → lv_has ls 9 [(0, .ref (z + 325)), (1, .int p0), (2, .int p1), (3, .int p2), (4, .ref (z + r0)), (5, .int p3), (6, .int p4), (7, .int x64_7), (8, .int x9_8)] → W p l e (headSpec wsX3_guesses (dkR 6)).room s m args below meth c H locs 0 0 (MQ below (dkQi g z (fun r I1 => dkF [(326, 326, 0, 4), (326, 326, 11, 11), (326, 326, 15, 17), (327, 327, 0, 4), (328, 328, 0, 4), (329, 329, 0, 4), (330, 330, 0, 4), (331, 331, 0, 4), (332, 332, 0, 4), (333, 333, 0, 5), (334, 334, 0, 5), (335, 335, 0, 5), (336, 336, 0, 8)] I0 I1 ∧ dkOk I1 ∧ ((True ∧ True)))) args s 0 0 (dkA z)) (F0 m 64 ls []) := by
        intro I64_ H locs ls x64_7 hW hS hF_64 hO r64_0 hl
        have hF := hF_64
        obtain ⟨v1, ev1⟩ : ∃ y : Int32, y = x9_8 + 1 := ⟨_, rfl⟩
        have dv1 : dkN [(1, 9)] v1 := by rw [ev1]; exact dkN_add r64_0 (dkN_lit (x := 1) (1) rfl) rfl
        refine lv_iinc (v := v1) (lv' := [(8, .int v1), (0, .ref (z + 325)), (1, .int p0), (2, .int p1), (3, .int p2), (4, .ref (z + r0)), (5, .int p3), (6, .int p4), (7, .int x64_7)]) hx hb dX3_guesses_64 hl (k := 8) rfl (by rw [ev1]; rfl) (by decide) rfl (fun ls hl => ?_)
        refine lv_goto (tgt := 9) hx hb dX3_guesses_67 (by decide) ?_
        exact ih9 I64_ _ _ ls x64_7 v1 (dk_near hn9 (by rw [ev1]; exact dk_inc r64_0 rfl) (dkN_lt r64_0 rfl)) hW hS hF hO (dkN_sub dv1 rfl) (lv_sub hl [1, 2, 3, 4, 5, 6, 7, 8, 0] rfl)
      refine lv_iload hx hb dX3_guesses_9 (lv_at hl 8 rfl) ?_
      refine lv_aload_n hx hb dX3_guesses_11 rfl (lv_at hl 0 rfl) ?_
      refine lv_iload_n hx hb dX3_guesses_12 rfl (lv_at hl 1 rfl) ?_
      refine dk_Vi (As := [.int p0]) (rest := [.int x9_8]) ⟨hx, hb, hml, hown, hts⟩ (c_X3_mostOf_2 l g z I9_ p0 dp0 hO) (cwV 1 hts gX3_guesses_X3_mostOf rfl rfl rfl (by decide +kernel) ⟨Nat.le_of_ble_eq_true rfl, Nat.le_of_ble_eq_true rfl⟩) (dk_at325 hW) rfl hK hT hW hS rfl hl.1 rfl (Nat.le_of_ble_eq_true rfl) dX3_guesses_13 ⟨Nat.zero_le _, Nat.zero_le _⟩ (fun v2 I2 H2 L2 hp2 hW hS => ?_)
      obtain ⟨hF2, hO, hc2⟩ := hp2
      have hF := dkF_call hF hF2 rfl
      obtain ⟨dv2, -⟩ := hc2
      refine lv_icmp_gt (tgt := 70) hx hb dX3_guesses_16 (by decide) (fun c3 => ?_) (fun c3 => ?_)
      ·
        refine lv_iload hx hb dX3_guesses_70 (lv_at hl 7 rfl) ?_
        exact W.iret (v := x9_7) hx hb hr (fun t ht hW9 => ⟨⟨x9_7, I2, rfl, ⟨hF, hO, ⟨trivial, trivial⟩⟩, dkW_eq ht hW⟩, hS.F ht⟩) hS.2.2 dX3_guesses_72
      ·
        have d4 : dkN [(0, 8)] v2 := dkN_le2 0 k9_1 dv2 (dkc_nlt c3) rfl
        have d5 : dkN [(0, 8)] x9_8 := dkN_le1 0 k9_1 dv2 (dkc_nlt c3) rfl
        refine lv_aload_n hx hb dX3_guesses_19 rfl (lv_at hl 0 rfl) ?_
        refine dk_get (k := 325) hx hb hts iX3_guesses_3 hown hK (dk_at325 hW) rfl 1 (by decide) (hts (.fieldLink RX3 12 "DogKings$Seer" "then" "LDogKings$Town;") (List.mem_of_getElem? (i := 1) rfl)) rfl dX3_guesses_20 ?_
        refine lv_aload_n hx hb dX3_guesses_23 rfl (lv_at hl 0 rfl) ?_
        refine dk_get (k := 325) hx hb hts iX3_guesses_3 hown hK (dk_at325 hW) rfl 0 (by decide) (hts (.fieldLink RX3 22 "DogKings$Seer" "now" "LDogKings$Town;") (List.mem_of_getElem? (i := 2) rfl)) rfl dX3_guesses_24 ?_
        refine dk_Vv (As := [.ref (z + 25)]) (rest := []) ⟨hx, hb, hml, hown, hts⟩ (c_X4_become_0 l g z I2 (326) (by unfold dkT; omega) (25) (by unfold dkT; omega) hO) (cwV 1 hts gX3_guesses_X4_become rfl rfl rfl (by decide +kernel) ⟨Nat.le_of_ble_eq_true rfl, Nat.le_of_ble_eq_true rfl⟩) (dk_at326 hW) rfl hK hT hW hS rfl hl.1 rfl (Nat.le_of_ble_eq_true rfl) dX3_guesses_27 ⟨Nat.zero_le _, Nat.zero_le _⟩ (fun I6 H6 L6 hp6 hW hS => ?_)
        obtain ⟨hF6, hO, hc6⟩ := hp6
        have hF := dkF_call hF hF6 rfl
        refine lv_aload_n hx hb dX3_guesses_30 rfl (lv_at hl 0 rfl) ?_
        refine dk_get (k := 325) hx hb hts iX3_guesses_3 hown hK (dk_at325 hW) rfl 1 (by decide) (hts (.fieldLink RX3 12 "DogKings$Seer" "then" "LDogKings$Town;") (List.mem_of_getElem? (i := 1) rfl)) rfl dX3_guesses_31 ?_
        refine lv_iload_n hx hb dX3_guesses_34 rfl (lv_at hl 1 rfl) ?_
        refine lv_iload_n hx hb dX3_guesses_35 rfl (lv_at hl 2 rfl) ?_
        refine lv_iload hx hb dX3_guesses_36 (lv_at hl 8 rfl) ?_
        refine dk_Vv (As := [.int p0, .int p1, .int x9_8]) (rest := []) ⟨hx, hb, hml, hown, hts⟩ (c_X4_take_4 l g z I6 (326) (by unfold dkT; omega) p0 p1 x9_8 dp0 dp1 (dkN_sub d5 rfl) hO) (cwV 3 hts gX3_guesses_X4_take rfl rfl rfl (by decide +kernel) ⟨Nat.le_of_ble_eq_true rfl, Nat.le_of_ble_eq_true rfl⟩) (dk_at326 hW) rfl hK hT hW hS rfl hl.1 rfl (Nat.le_of_ble_eq_true rfl) dX3_guesses_38 ⟨Nat.zero_le _, Nat.zero_le _⟩ (fun I7 H7 L7 hp7 hW hS => ?_)
        obtain ⟨hF7, hO, hc7⟩ := hp7
        have hF := dkF_call hF hF7 rfl
        refine lv_aload_n hx hb dX3_guesses_41 rfl (lv_at hl 0 rfl) ?_
        refine lv_iload_n hx hb dX3_guesses_42 rfl (lv_at hl 3 rfl) ?_
        refine lv_aload hx hb dX3_guesses_43 (lv_at hl 4 rfl) ?_
        refine lv_iload hx hb dX3_guesses_45 (lv_at hl 5 rfl) ?_
        refine lv_iload hx hb dX3_guesses_47 (lv_at hl 6 rfl) ?_
        refine dk_Vi (As := [.int p2, .ref (z + r0), .int p3, .int p4]) (rest := []) ⟨hx, hb, hml, hown, hts⟩ (c_X3_goesAsTold_0 l g z I7 r0 hr0 p2 p3 p4 dp2 dp3 dp4 hO) (cwV 4 hts gX3_guesses_X3_goesAsTold rfl rfl rfl (by decide +kernel) ⟨Nat.le_of_ble_eq_true rfl, Nat.le_of_ble_eq_true rfl⟩) (dk_at325 hW) rfl hK hT hW hS rfl hl.1 rfl (Nat.le_of_ble_eq_true rfl) dX3_guesses_49 ⟨Nat.zero_le _, Nat.zero_le _⟩ (fun v8 I8 H8 L8 hp8 hW hS => ?_)
        obtain ⟨hF8, hO, hc8⟩ := hp8
        have hF := dkF_call hF hF8 rfl
        rcases hc8 with ⟨dv8, f8_326_3, -⟩ | hc8
        ·
          refine lv_if_eq (tgt := 64) hx hb dX3_guesses_52 (by decide) (fun c9 => ?_) (fun c9 => ?_)
          ·
            exact C64 I8 _ _ ls x9_7 hW hS hF hO (dkN_sub d5 rfl) (lv_sub hl [0, 1, 2, 3, 4, 5, 6, 7, 8] rfl)
          ·
            exact (dkN_nil (show dkN [] v8 from dkN_ne1 (0) dv8 (dkN_lit (x := 0) (0) rfl) (dk_ne c9) rfl)).elim
        ·
          obtain ⟨dv8, -⟩ := hc8
          refine lv_if_eq (tgt := 64) hx hb dX3_guesses_52 (by decide) (fun c10 => ?_) (fun c10 => ?_)
          ·
            exact (dkN_nil (show dkN [] v8 from dkN_eq1 dv8 (dkN_lit (x := 0) (0) rfl) (congrArg Int32.toInt c10) rfl)).elim
          ·
            refine lv_iload hx hb dX3_guesses_55 (lv_at hl 7 rfl) ?_
            refine lv_iconst (v := 1) hx hb dX3_guesses_57 (by decide) ?_
            refine lv_iload hx hb dX3_guesses_58 (lv_at hl 8 rfl) ?_
            refine lv_ishl hx hb dX3_guesses_60 ?_
            refine lv_topi (fun v11 ev11 => ?_)
            have dv11 : dkN [(1, 256)] v11 := by rw [ev11]; exact dkN_shl1 0 8 (by decide) d5 rfl
            refine lv_ior hx hb dX3_guesses_61 ?_
            refine lv_topi (fun v12 ev12 => ?_)
            refine lv_istore (lv' := [(7, .int v12), (0, .ref (z + 325)), (1, .int p0), (2, .int p1), (3, .int p2), (4, .ref (z + r0)), (5, .int p3), (6, .int p4), (8, .int x9_8)]) hx hb dX3_guesses_62 hl (by decide) rfl (fun ls hl => ?_)
            exact C64 I8 _ _ ls v12 hW hS hF hO (dkN_sub d5 rfl) (lv_sub hl [1, 2, 3, 4, 5, 6, 7, 0, 8] rfl)
  refine lv_iconst (v := 0) hx hb dX3_guesses_0 (by decide) ?_
  refine lv_istore (lv' := [(7, .int 0), (0, .ref (z + 325)), (1, .int p0), (2, .int p1), (3, .int p2), (4, .ref (z + r0)), (5, .int p3), (6, .int p4)]) hx hb dX3_guesses_1 hl (by decide) rfl (fun ls hl => ?_)
  refine lv_iload_n hx hb dX3_guesses_3 rfl (lv_at hl 2 rfl) ?_
  refine dk_Si (As := [.int p0]) (rest := []) ⟨hx, hb, hml, hown, hts⟩ (c_X3_leastOf_2 l g z I0 p0 dp0 hO) (va_cwS 1 hts gX3_guesses_X3_leastOf rfl rfl rfl (by decide +kernel) ⟨Nat.le_of_ble_eq_true rfl, Nat.le_of_ble_eq_true rfl⟩) hK hT hW hS rfl hl.1 rfl (Nat.le_of_ble_eq_true rfl) dX3_guesses_4 ⟨Nat.zero_le _, Nat.zero_le _⟩ (fun v13 I13 H13 L13 hp13 hW hS => ?_)
  obtain ⟨hF13, hO, hc13⟩ := hp13
  have hF := dkF_call hF hF13 rfl
  obtain ⟨dv13, -⟩ := hc13
  refine lv_istore (lv' := [(8, .int v13), (7, .int 0), (0, .ref (z + 325)), (1, .int p0), (2, .int p1), (3, .int p2), (4, .ref (z + r0)), (5, .int p3), (6, .int p4)]) hx hb dX3_guesses_7 hl (by decide) rfl (fun ls hl => ?_)
  exact C9 _ I13 _ _ ls 0 v13 (Nat.lt_succ_self _) hW hS hF hO (dkN_sub dv13 rfl) (lv_sub hl [2, 3, 4, 5, 6, 7, 8, 1, 0] rfl)
set_option maxHeartbeats 4000000 in
set_option maxRecDepth 100000 in
theorem c_X3_leastOf_3 (l : Launch) (g : dkG) (z : Nat) (I0 : dkI) (p0 : Int32) (dp0 : dkN [(0, 0)] p0)  (hO : dkOk I0) : Met l yX3_leastOf wsX3_leastOf (dkR 0) (dkPc g z [.int p0] I0) (dkQi g z (fun r I1 => dkF [] I0 I1 ∧ dkOk I1 ∧ ((dkN [(1, 1)] r ∧ True)))) 0 0 (dkA z) := by
  refine Met.ofW (cc := cX3_leastOf) (maxL := 1) (ret := (some .int)) (by decide) rfl ?_
  intro p e s m args below meth c s₁ B hml hv
  obtain ⟨ha, hW, hK, hT⟩ := hv
  have hx := B.exec
  have hb := B.bytes
  have hr := B.returns
  have hts := atoms_spec (ws := wsX3_leastOf) B.pre
  have hown : s.vm.findClass RX3 = some m.cls := findClass_of_methodNamed B.named
  have hlocks := B.notSynchronized
  have hS : va_S (dkA z) s.heap s.heap [] := va_S.rf
  have hF : dkF [] I0 I0 := dkF_rf _ _
  have hl := lv_entry ([.int p0]) (n := 1) (Nat.le_of_ble_eq_true rfl)
  have hgo : entryFrame m args 1 = entryFrame m ([.int p0] : List Value).toArray 1 := by rw [ha]
  rw [hgo, lg_entry_eq]
  generalize (lg_sl ([.int p0]) ++ List.replicate (1 - (lg_sl ([.int p0])).length) Slot.unset).toArray = ls at hl ⊢
  have hl : lv_has ls 1 [(0, .int p0)] := hl
  refine lv_iload_n hx hb dX3_leastOf_0 rfl (lv_at hl 0 rfl) ?_
  refine lv_if_ne (tgt := 8) hx hb dX3_leastOf_1 (by decide) (fun c1 => ?_) (fun c1 => ?_)
  ·
    exact (dkN_nil (show dkN [] p0 from dkN_ne1 (0) dp0 (dkN_lit (x := 0) (0) rfl) (dk_ne c1) rfl)).elim
  ·
    refine lv_iconst (v := 1) hx hb dX3_leastOf_4 (by decide) ?_
    refine lv_goto (tgt := 9) hx hb dX3_leastOf_5 (by decide) ?_
    exact W.iret (v := 1) hx hb hr (fun t ht hW9 => ⟨⟨1, I0, rfl, ⟨hF, hO, ⟨dkN_sub (dkN_lit (x := 1) (1) rfl) rfl, trivial⟩⟩, dkW_eq ht hW⟩, hS.F ht⟩) hS.2.2 dX3_leastOf_9
set_option maxHeartbeats 4000000 in
set_option maxRecDepth 100000 in
theorem c_X3_mostOf_3 (l : Launch) (g : dkG) (z : Nat) (I0 : dkI) (p0 : Int32) (dp0 : dkN [(0, 0)] p0)  (hO : dkOk I0) : Met l yX3_mostOf wsX3_mostOf (dkR 0) (dkPc g z [.ref (z + 325), .int p0] I0) (dkQi g z (fun r I1 => dkF [] I0 I1 ∧ dkOk I1 ∧ ((dkN [(5, 5)] r ∧ True)))) 0 0 (dkA z) := by
  refine Met.ofW (cc := cX3_mostOf) (maxL := 2) (ret := (some .int)) (by decide) rfl ?_
  intro p e s m args below meth c s₁ B hml hv
  obtain ⟨ha, hW, hK, hT⟩ := hv
  have hx := B.exec
  have hb := B.bytes
  have hr := B.returns
  have hts := atoms_spec (ws := wsX3_mostOf) B.pre
  have hown : s.vm.findClass RX3 = some m.cls := findClass_of_methodNamed B.named
  have hlocks := B.notSynchronized
  have hS : va_S (dkA z) s.heap s.heap [] := va_S.rf
  have hF : dkF [] I0 I0 := dkF_rf _ _
  have hl := lv_entry ([.ref (z + 325), .int p0]) (n := 2) (Nat.le_of_ble_eq_true rfl)
  have hgo : entryFrame m args 2 = entryFrame m ([.ref (z + 325), .int p0] : List Value).toArray 2 := by rw [ha]
  rw [hgo, lg_entry_eq]
  generalize (lg_sl ([.ref (z + 325), .int p0]) ++ List.replicate (2 - (lg_sl ([.ref (z + 325), .int p0])).length) Slot.unset).toArray = ls at hl ⊢
  have hl : lv_has ls 2 [(0, .ref (z + 325)), (1, .int p0)] := hl
  refine lv_iload_n hx hb dX3_mostOf_0 rfl (lv_at hl 1 rfl) ?_
  by_cases c1 : p0 = 0
  ·
    have qc1 : p0.toInt = 0 := by rw [c1]; rfl
    have d2 : dkN [(0, 0)] p0 := dkN_lit (0) qc1
    refine lv_tableIn (tgt := 28) hx hb dX3_mostOf_1 (by rw [qc1]; decide) (by rw [qc1]; decide) (by rw [qc1]; rfl) (by decide) ?_
    refine lv_iconst (v := 5) hx hb dX3_mostOf_28 (by decide) ?_
    exact W.iret (v := 5) hx hb hr (fun t ht hW9 => ⟨⟨5, I0, rfl, ⟨hF, hO, ⟨dkN_sub (dkN_lit (x := 5) (5) rfl) rfl, trivial⟩⟩, dkW_eq ht hW⟩, hS.F ht⟩) hS.2.2 dX3_mostOf_29
  ·
    exact (dkN_nil (show dkN [] p0 from dkN_ne1 (0) dp0 (dkN_lit (x := 0) (0) rfl) (dk_ne c1) rfl)).elim
set_option maxHeartbeats 4000000 in
set_option maxRecDepth 100000 in
theorem c_X4_take_5 (l : Launch) (g : dkG) (z : Nat) (I0 : dkI) (t0 : Nat) (ht0 : dkT t0) (p0 : Int32) (p1 : Int32) (p2 : Int32) (dp0 : dkN [(0, 0)] p0) (dp1 : dkN [(0, 5)] p1) (dp2 : dkN [(0, 9)] p2)  (hO : dkOk I0) : Met l yX4_take wsX4_take (dkR 0) (dkPc g z [.ref (z + t0), .int p0, .int p1, .int p2] I0) (dkQv g z (fun I1 => dkF [(t0 + 7, t0 + 7, 0, 5)] I0 I1 ∧ dkOk I1 ∧ ((True)))) 0 0 (dkA z) := by
  refine Met.ofW (cc := cX4_take) (maxL := 4) (ret := none) (by decide) rfl ?_
  intro p e s m args below meth c s₁ B hml hv
  obtain ⟨ha, hW, hK, hT⟩ := hv
  have hx := B.exec
  have hb := B.bytes
  have hr := B.returns
  have hts := atoms_spec (ws := wsX4_take) B.pre
  have hown : s.vm.findClass RX4 = some m.cls := findClass_of_methodNamed B.named
  have hlocks := B.notSynchronized
  have hS : va_S (dkA z) s.heap s.heap [] := va_S.rf
  have hF : dkF [(t0 + 7, t0 + 7, 0, 5)] I0 I0 := dkF_rf _ _
  have hl := lv_entry ([.ref (z + t0), .int p0, .int p1, .int p2]) (n := 4) (Nat.le_of_ble_eq_true rfl)
  have hgo : entryFrame m args 4 = entryFrame m ([.ref (z + t0), .int p0, .int p1, .int p2] : List Value).toArray 4 := by rw [ha]
  rw [hgo, lg_entry_eq]
  generalize (lg_sl ([.ref (z + t0), .int p0, .int p1, .int p2]) ++ List.replicate (4 - (lg_sl ([.ref (z + t0), .int p0, .int p1, .int p2])).length) Slot.unset).toArray = ls at hl ⊢
  have hl : lv_has ls 4 [(0, .ref (z + t0)), (1, .int p0), (2, .int p1), (3, .int p2)] := hl
  refine lv_iload_n hx hb dX4_take_0 rfl (lv_at hl 1 rfl) ?_
  by_cases c1 : p0 = 0
  ·
    have qc1 : p0.toInt = 0 := by rw [c1]; rfl
    have d2 : dkN [(0, 0)] p0 := dkN_lit (0) qc1
    refine lv_tableIn (tgt := 36) hx hb dX4_take_1 (by rw [qc1]; decide) (by rw [qc1]; decide) (by rw [qc1]; rfl) (by decide) ?_
    refine lv_aload_n hx hb dX4_take_36 rfl (lv_at hl 0 rfl) ?_
    refine dk_get (k := t0) hx hb hts iX4_take_4 hown hK (dk_aT0 ht0 hW) rfl 12 (by decide) (hts (.fieldLink RX4 30 "DogKings$Town" "sort" "[I") (List.mem_of_getElem? (i := 1) rfl)) rfl dX4_take_37 ?_
    refine lv_iload_n hx hb dX4_take_40 rfl (lv_at hl 2 rfl) ?_
    refine lv_iload_n hx hb dX4_take_41 rfl (lv_at hl 3 rfl) ?_
    refine dk_ist (k := (t0 + 7)) hx hb hK hW (fun _ => dkC_T g z ht0 (c := 7) (by decide) _) (by have := dkT_lt ht0; omega) hS (dkN_in (n := 6) dp1 rfl) dX4_take_42 (fun I3 H3 L3 eI3 hW hS => ?_)
    have hO := dkO_setT hO ht0 (c := 7) (by decide) eI3 (dkN_sub dp2 rfl)
    have hF := dkF_set hF eI3 (dkIn_atv (i := 0) rfl (Nat.le_refl _) (Nat.le_refl _) dp1 rfl)
    refine lv_goto (tgt := 86) hx hb dX4_take_43 (by decide) ?_
    exact W.vret hx hb hr (fun t ht hW9 => ⟨⟨I3, rfl, ⟨hF, hO, trivial⟩, dkW_eq ht hW⟩, hS.F ht⟩) hS.2.2 dX4_take_86
  ·
    exact (dkN_nil (show dkN [] p0 from dkN_ne1 (0) dp0 (dkN_lit (x := 0) (0) rfl) (dk_ne c1) rfl)).elim
set_option maxHeartbeats 4000000 in
set_option maxRecDepth 100000 in
theorem c_X3_guesses_3 (l : Launch) (g : dkG) (z : Nat) (I0 : dkI) (r0 : Nat) (hr0 : 2 ≤ r0 ∧ r0 < 10) (p0 : Int32) (p1 : Int32) (p2 : Int32) (p3 : Int32) (p4 : Int32) (dp0 : dkN [(0, 0)] p0) (dp1 : dkN [(0, 5)] p1) (dp2 : dkN [(0, 5)] p2) (dp3 : dkN [(0, 39)] p3) (dp4 : dkN [(1, 12)] p4)  (hO : dkOk I0) : Met l yX3_guesses wsX3_guesses (dkR 6) (dkPc g z [.ref (z + 325), .int p0, .int p1, .int p2, .ref (z + r0), .int p3, .int p4] I0) (dkQi g z (fun r I1 => dkF [(326, 326, 0, 4), (326, 326, 11, 11), (326, 326, 15, 17), (327, 327, 0, 4), (328, 328, 0, 4), (329, 329, 0, 4), (330, 330, 0, 4), (331, 331, 0, 4), (332, 332, 0, 4), (333, 333, 0, 5), (334, 334, 0, 5), (335, 335, 0, 5), (336, 336, 0, 8)] I0 I1 ∧ dkOk I1 ∧ ((True ∧ True)))) 0 0 (dkA z) := by
  refine Met.ofW (cc := cX3_guesses) (maxL := 9) (ret := (some .int)) (by decide) rfl ?_
  intro p e s m args below meth c s₁ B hml hv
  obtain ⟨ha, hW, hK, hT⟩ := hv
  have hx := B.exec
  have hb := B.bytes
  have hr := B.returns
  have hts := atoms_spec (ws := wsX3_guesses) B.pre
  have hown : s.vm.findClass RX3 = some m.cls := findClass_of_methodNamed B.named
  have hlocks := B.notSynchronized
  have hS : va_S (dkA z) s.heap s.heap [] := va_S.rf
  have hF : dkF [(326, 326, 0, 4), (326, 326, 11, 11), (326, 326, 15, 17), (327, 327, 0, 4), (328, 328, 0, 4), (329, 329, 0, 4), (330, 330, 0, 4), (331, 331, 0, 4), (332, 332, 0, 4), (333, 333, 0, 5), (334, 334, 0, 5), (335, 335, 0, 5), (336, 336, 0, 8)] I0 I0 := dkF_rf _ _
  have hl := lv_entry ([.ref (z + 325), .int p0, .int p1, .int p2, .ref (z + r0), .int p3, .int p4]) (n := 9) (Nat.le_of_ble_eq_true rfl)
  have hgo : entryFrame m args 9 = entryFrame m ([.ref (z + 325), .int p0, .int p1, .int p2, .ref (z + r0), .int p3, .int p4] : List Value).toArray 9 := by rw [ha]
  rw [hgo, lg_entry_eq]
  generalize (lg_sl ([.ref (z + 325), .int p0, .int p1, .int p2, .ref (z + r0), .int p3, .int p4]) ++ List.replicate (9 - (lg_sl ([.ref (z + 325), .int p0, .int p1, .int p2, .ref (z + r0), .int p3, .int p4])).length) Slot.unset).toArray = ls at hl ⊢
  have hl : lv_has ls 9 [(0, .ref (z + 325)), (1, .int p0), (2, .int p1), (3, .int p2), (4, .ref (z + r0)), (5, .int p3), (6, .int p4)] := hl
  have C9 : ∀ (n : Nat), ∀ (I : dkI) (H : Heap) (locs : List Loc) (ls : Array Slot) (x9_7 : Int32) (x9_8 : Int32), (6 - x9_8.toInt).toNat < n → dkW g z I H → va_S (dkA z) s.heap H locs → dkF [(326, 326, 0, 4), (326, 326, 11, 11), (326, 326, 15, 17), (327, 327, 0, 4), (328, 328, 0, 4), (329, 329, 0, 4), (330, 330, 0, 4), (331, 331, 0, 4), (332, 332, 0, 4), (333, 333, 0, 5), (334, 334, 0, 5), (335, 335, 0, 5), (336, 336, 0, 8)] I0 I → dkOk I → dkN [(1, 6)] x9_8 → lv_has ls 9 [(0, .ref (z + 325)), (1, .int p0), (2, .int p1), (3, .int p2), (4, .ref (z + r0)), (5, .int p3), (6, .int p4), (7, .int x9_7), (8, .int x9_8)] → W p l e (headSpec wsX3_guesses (dkR 6)).room s m args below meth c H locs 0 0 (MQ below (dkQi g z (fun r I1 => dkF [(326, 326, 0, 4), (326, 326, 11, 11), (326, 326, 15, 17), (327, 327, 0, 4), (328, 328, 0, 4), (329, 329, 0, 4), (330, 330, 0, 4), (331, 331, 0, 4), (332, 332, 0, 4), (333, 333, 0, 5), (334, 334, 0, 5), (335, 335, 0, 5), (336, 336, 0, 8)] I0 I1 ∧ dkOk I1 ∧ ((True ∧ True)))) args s 0 0 (dkA z)) (F0 m 9 ls []) := by
    intro n
    induction n with
    | zero => intro I H locs ls x9_7 x9_8 hn; exact absurd hn (Nat.not_lt_zero _)
    | succ n ih9 =>
      intro I9_ H locs ls x9_7 x9_8 hn9 hW hS hF_9 hO k9_1 hl
      have hF := hF_9
      have C64 : ∀ (I : dkI) (H : Heap) (locs : List Loc) (ls : Array Slot) (x64_7 : Int32), dkW g z I H → va_S (dkA z) s.heap H locs → dkF [(326, 326, 0, 4), (326, 326, 11, 11), (326, 326, 15, 17), (327, 327, 0, 4), (328, 328, 0, 4), (329, 329, 0, 4), (330, 330, 0, 4), (331, 331, 0, 4), (332, 332, 0, 4), (333, 333, 0, 5), (334, 334, 0, 5), (335, 335, 0, 5), (336, 336, 0, 8)] I0 I → dkOk I → dkN [(1, 5)] x9_8 → lv_has ls 9 [(0, .ref (z + 325)), (1, .int p0), (2, .int p1), (3, .int p2), (4, .ref (z + r0)), (5, .int p3), (6, .int p4), (7, .int x64_7), (8, .int x9_8)] → W p l e (headSpec wsX3_guesses (dkR 6)).room s m args below meth c H locs 0 0 (MQ below (dkQi g z (fun r I1 => dkF [(326, 326, 0, 4), (326, 326, 11, 11), (326, 326, 15, 17), (327, 327, 0, 4), (328, 328, 0, 4), (329, 329, 0, 4), (330, 330, 0, 4), (331, 331, 0, 4), (332, 332, 0, 4), (333, 333, 0, 5), (334, 334, 0, 5), (335, 335, 0, 5), (336, 336, 0, 8)] I0 I1 ∧ dkOk I1 ∧ ((True ∧ True)))) args s 0 0 (dkA z)) (F0 m 64 ls []) := by
        intro I64_ H locs ls x64_7 hW hS hF_64 hO r64_0 hl
        have hF := hF_64
        obtain ⟨v1, ev1⟩ : ∃ y : Int32, y = x9_8 + 1 := ⟨_, rfl⟩
        have dv1 : dkN [(2, 6)] v1 := by rw [ev1]; exact dkN_add r64_0 (dkN_lit (x := 1) (1) rfl) rfl
        refine lv_iinc (v := v1) (lv' := [(8, .int v1), (0, .ref (z + 325)), (1, .int p0), (2, .int p1), (3, .int p2), (4, .ref (z + r0)), (5, .int p3), (6, .int p4), (7, .int x64_7)]) hx hb dX3_guesses_64 hl (k := 8) rfl (by rw [ev1]; rfl) (by decide) rfl (fun ls hl => ?_)
        refine lv_goto (tgt := 9) hx hb dX3_guesses_67 (by decide) ?_
        exact ih9 I64_ _ _ ls x64_7 v1 (dk_near hn9 (by rw [ev1]; exact dk_inc r64_0 rfl) (dkN_lt r64_0 rfl)) hW hS hF hO (dkN_sub dv1 rfl) (lv_sub hl [1, 2, 3, 4, 5, 6, 7, 8, 0] rfl)
      refine lv_iload hx hb dX3_guesses_9 (lv_at hl 8 rfl) ?_
      refine lv_aload_n hx hb dX3_guesses_11 rfl (lv_at hl 0 rfl) ?_
      refine lv_iload_n hx hb dX3_guesses_12 rfl (lv_at hl 1 rfl) ?_
      refine dk_Vi (As := [.int p0]) (rest := [.int x9_8]) ⟨hx, hb, hml, hown, hts⟩ (c_X3_mostOf_3 l g z I9_ p0 dp0 hO) (cwV 1 hts gX3_guesses_X3_mostOf rfl rfl rfl (by decide +kernel) ⟨Nat.le_of_ble_eq_true rfl, Nat.le_of_ble_eq_true rfl⟩) (dk_at325 hW) rfl hK hT hW hS rfl hl.1 rfl (Nat.le_of_ble_eq_true rfl) dX3_guesses_13 ⟨Nat.zero_le _, Nat.zero_le _⟩ (fun v2 I2 H2 L2 hp2 hW hS => ?_)
      obtain ⟨hF2, hO, hc2⟩ := hp2
      have hF := dkF_call hF hF2 rfl
      obtain ⟨dv2, -⟩ := hc2
      refine lv_icmp_gt (tgt := 70) hx hb dX3_guesses_16 (by decide) (fun c3 => ?_) (fun c3 => ?_)
      ·
        have d4 : dkN [(6, 6)] x9_8 := dkN_le2 1 dv2 k9_1 (dkc_lt c3) rfl
        refine lv_iload hx hb dX3_guesses_70 (lv_at hl 7 rfl) ?_
        exact W.iret (v := x9_7) hx hb hr (fun t ht hW9 => ⟨⟨x9_7, I2, rfl, ⟨hF, hO, ⟨trivial, trivial⟩⟩, dkW_eq ht hW⟩, hS.F ht⟩) hS.2.2 dX3_guesses_72
      ·
        have d5 : dkN [(1, 5)] x9_8 := dkN_le1 0 k9_1 dv2 (dkc_nlt c3) rfl
        refine lv_aload_n hx hb dX3_guesses_19 rfl (lv_at hl 0 rfl) ?_
        refine dk_get (k := 325) hx hb hts iX3_guesses_3 hown hK (dk_at325 hW) rfl 1 (by decide) (hts (.fieldLink RX3 12 "DogKings$Seer" "then" "LDogKings$Town;") (List.mem_of_getElem? (i := 1) rfl)) rfl dX3_guesses_20 ?_
        refine lv_aload_n hx hb dX3_guesses_23 rfl (lv_at hl 0 rfl) ?_
        refine dk_get (k := 325) hx hb hts iX3_guesses_3 hown hK (dk_at325 hW) rfl 0 (by decide) (hts (.fieldLink RX3 22 "DogKings$Seer" "now" "LDogKings$Town;") (List.mem_of_getElem? (i := 2) rfl)) rfl dX3_guesses_24 ?_
        refine dk_Vv (As := [.ref (z + 25)]) (rest := []) ⟨hx, hb, hml, hown, hts⟩ (c_X4_become_0 l g z I2 (326) (by unfold dkT; omega) (25) (by unfold dkT; omega) hO) (cwV 1 hts gX3_guesses_X4_become rfl rfl rfl (by decide +kernel) ⟨Nat.le_of_ble_eq_true rfl, Nat.le_of_ble_eq_true rfl⟩) (dk_at326 hW) rfl hK hT hW hS rfl hl.1 rfl (Nat.le_of_ble_eq_true rfl) dX3_guesses_27 ⟨Nat.zero_le _, Nat.zero_le _⟩ (fun I6 H6 L6 hp6 hW hS => ?_)
        obtain ⟨hF6, hO, hc6⟩ := hp6
        have hF := dkF_call hF hF6 rfl
        refine lv_aload_n hx hb dX3_guesses_30 rfl (lv_at hl 0 rfl) ?_
        refine dk_get (k := 325) hx hb hts iX3_guesses_3 hown hK (dk_at325 hW) rfl 1 (by decide) (hts (.fieldLink RX3 12 "DogKings$Seer" "then" "LDogKings$Town;") (List.mem_of_getElem? (i := 1) rfl)) rfl dX3_guesses_31 ?_
        refine lv_iload_n hx hb dX3_guesses_34 rfl (lv_at hl 1 rfl) ?_
        refine lv_iload_n hx hb dX3_guesses_35 rfl (lv_at hl 2 rfl) ?_
        refine lv_iload hx hb dX3_guesses_36 (lv_at hl 8 rfl) ?_
        refine dk_Vv (As := [.int p0, .int p1, .int x9_8]) (rest := []) ⟨hx, hb, hml, hown, hts⟩ (c_X4_take_5 l g z I6 (326) (by unfold dkT; omega) p0 p1 x9_8 dp0 dp1 (dkN_sub d5 rfl) hO) (cwV 3 hts gX3_guesses_X4_take rfl rfl rfl (by decide +kernel) ⟨Nat.le_of_ble_eq_true rfl, Nat.le_of_ble_eq_true rfl⟩) (dk_at326 hW) rfl hK hT hW hS rfl hl.1 rfl (Nat.le_of_ble_eq_true rfl) dX3_guesses_38 ⟨Nat.zero_le _, Nat.zero_le _⟩ (fun I7 H7 L7 hp7 hW hS => ?_)
        obtain ⟨hF7, hO, hc7⟩ := hp7
        have hF := dkF_call hF hF7 rfl
        refine lv_aload_n hx hb dX3_guesses_41 rfl (lv_at hl 0 rfl) ?_
        refine lv_iload_n hx hb dX3_guesses_42 rfl (lv_at hl 3 rfl) ?_
        refine lv_aload hx hb dX3_guesses_43 (lv_at hl 4 rfl) ?_
        refine lv_iload hx hb dX3_guesses_45 (lv_at hl 5 rfl) ?_
        refine lv_iload hx hb dX3_guesses_47 (lv_at hl 6 rfl) ?_
        refine dk_Vi (As := [.int p2, .ref (z + r0), .int p3, .int p4]) (rest := []) ⟨hx, hb, hml, hown, hts⟩ (c_X3_goesAsTold_0 l g z I7 r0 hr0 p2 p3 p4 dp2 dp3 dp4 hO) (cwV 4 hts gX3_guesses_X3_goesAsTold rfl rfl rfl (by decide +kernel) ⟨Nat.le_of_ble_eq_true rfl, Nat.le_of_ble_eq_true rfl⟩) (dk_at325 hW) rfl hK hT hW hS rfl hl.1 rfl (Nat.le_of_ble_eq_true rfl) dX3_guesses_49 ⟨Nat.zero_le _, Nat.zero_le _⟩ (fun v8 I8 H8 L8 hp8 hW hS => ?_)
        obtain ⟨hF8, hO, hc8⟩ := hp8
        have hF := dkF_call hF hF8 rfl
        rcases hc8 with ⟨dv8, f8_326_3, -⟩ | hc8
        ·
          refine lv_if_eq (tgt := 64) hx hb dX3_guesses_52 (by decide) (fun c9 => ?_) (fun c9 => ?_)
          ·
            exact C64 I8 _ _ ls x9_7 hW hS hF hO (dkN_sub d5 rfl) (lv_sub hl [0, 1, 2, 3, 4, 5, 6, 7, 8] rfl)
          ·
            exact (dkN_nil (show dkN [] v8 from dkN_ne1 (0) dv8 (dkN_lit (x := 0) (0) rfl) (dk_ne c9) rfl)).elim
        ·
          obtain ⟨dv8, -⟩ := hc8
          refine lv_if_eq (tgt := 64) hx hb dX3_guesses_52 (by decide) (fun c10 => ?_) (fun c10 => ?_)
          ·
            exact (dkN_nil (show dkN [] v8 from dkN_eq1 dv8 (dkN_lit (x := 0) (0) rfl) (congrArg Int32.toInt c10) rfl)).elim
          ·
            refine lv_iload hx hb dX3_guesses_55 (lv_at hl 7 rfl) ?_
            refine lv_iconst (v := 1) hx hb dX3_guesses_57 (by decide) ?_
            refine lv_iload hx hb dX3_guesses_58 (lv_at hl 8 rfl) ?_
            refine lv_ishl hx hb dX3_guesses_60 ?_
            refine lv_topi (fun v11 ev11 => ?_)
            have dv11 : dkN [(2, 32)] v11 := by rw [ev11]; exact dkN_shl1 1 5 (by decide) d5 rfl
            refine lv_ior hx hb dX3_guesses_61 ?_
            refine lv_topi (fun v12 ev12 => ?_)
            refine lv_istore (lv' := [(7, .int v12), (0, .ref (z + 325)), (1, .int p0), (2, .int p1), (3, .int p2), (4, .ref (z + r0)), (5, .int p3), (6, .int p4), (8, .int x9_8)]) hx hb dX3_guesses_62 hl (by decide) rfl (fun ls hl => ?_)
            exact C64 I8 _ _ ls v12 hW hS hF hO (dkN_sub d5 rfl) (lv_sub hl [1, 2, 3, 4, 5, 6, 7, 0, 8] rfl)
  refine lv_iconst (v := 0) hx hb dX3_guesses_0 (by decide) ?_
  refine lv_istore (lv' := [(7, .int 0), (0, .ref (z + 325)), (1, .int p0), (2, .int p1), (3, .int p2), (4, .ref (z + r0)), (5, .int p3), (6, .int p4)]) hx hb dX3_guesses_1 hl (by decide) rfl (fun ls hl => ?_)
  refine lv_iload_n hx hb dX3_guesses_3 rfl (lv_at hl 2 rfl) ?_
  refine dk_Si (As := [.int p0]) (rest := []) ⟨hx, hb, hml, hown, hts⟩ (c_X3_leastOf_3 l g z I0 p0 dp0 hO) (va_cwS 1 hts gX3_guesses_X3_leastOf rfl rfl rfl (by decide +kernel) ⟨Nat.le_of_ble_eq_true rfl, Nat.le_of_ble_eq_true rfl⟩) hK hT hW hS rfl hl.1 rfl (Nat.le_of_ble_eq_true rfl) dX3_guesses_4 ⟨Nat.zero_le _, Nat.zero_le _⟩ (fun v13 I13 H13 L13 hp13 hW hS => ?_)
  obtain ⟨hF13, hO, hc13⟩ := hp13
  have hF := dkF_call hF hF13 rfl
  obtain ⟨dv13, -⟩ := hc13
  refine lv_istore (lv' := [(8, .int v13), (7, .int 0), (0, .ref (z + 325)), (1, .int p0), (2, .int p1), (3, .int p2), (4, .ref (z + r0)), (5, .int p3), (6, .int p4)]) hx hb dX3_guesses_7 hl (by decide) rfl (fun ls hl => ?_)
  exact C9 _ I13 _ _ ls 0 v13 (Nat.lt_succ_self _) hW hS hF hO (dkN_sub dv13 rfl) (lv_sub hl [2, 3, 4, 5, 6, 7, 8, 1, 0] rfl)
