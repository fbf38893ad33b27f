def dkTap (I : dkI) : Prop := I 12 1 = I 340 6

set_option maxHeartbeats 4000000 in
set_option maxRecDepth 100000 in
theorem dkr_feed {I J K : dkI} {a1 r1 r2 : Int32} (hR : dkTap I) (hO : dkOk I) (f1 : dkF [(12, 12, 1, 1), (13, 13, 0, 89)] I J) (f2 : dkF [(340, 340, 6, 6), (345, 345, 0, 89)] J K) (hc1 : ((dkN [(-1000001, -1000001)] r1 ∧ dkN [(-2147483648, -1)] a1 ∧ a1.toInt + 1 ≤ (0 : Int) ∧ r1 = (-1000001) ∧ J 12 1 = I 12 1 ∧ True) ∨ (dkN [(-1000001, -1000001)] r1 ∧ dkN [(256, 2147483647)] a1 ∧ (0 : Int) + 0 ≤ a1.toInt ∧ (255 : Int) + 1 ≤ a1.toInt ∧ r1 = (-1000001) ∧ J 12 1 = I 12 1 ∧ True) ∨ (dkN [(1, 90)] r1 ∧ dkN [(0, 255)] a1 ∧ dkN [(1, 90)] (J 12 1) ∧ (0 : Int) + 0 ≤ a1.toInt ∧ a1.toInt + 0 ≤ (255 : Int) ∧ (I 12 1).toInt + 1 ≤ (90 : Int) ∧ ((I 12 1) + 1).toInt = (I 12 1).toInt + (1 : Int) ∧ r1 = (I 12 1) + 1 ∧ J 12 1 = (I 12 1) + 1 ∧ True) ∨ (dkN [(90, 90)] r1 ∧ dkN [(0, 255)] a1 ∧ dkN [(90, 90)] (J 12 1) ∧ (0 : Int) + 0 ≤ a1.toInt ∧ a1.toInt + 0 ≤ (255 : Int) ∧ (I 12 1).toInt + 1 ≤ (90 : Int) ∧ (90 : Int) + 0 ≤ (I 12 1).toInt ∧ r1 = I 12 1 ∧ J 12 1 = I 12 1 ∧ True) ∨ (dkN [(-1000003, -1000003)] r1 ∧ dkN [(0, 255)] a1 ∧ dkN [(90, 90)] (J 12 1) ∧ (0 : Int) + 0 ≤ a1.toInt ∧ a1.toInt + 0 ≤ (255 : Int) ∧ (90 : Int) + 0 ≤ (I 12 1).toInt ∧ r1 = (-1000003) ∧ J 12 1 = I 12 1 ∧ True))) (hc2 : ((dkN [(-1000001, -1000001)] r2 ∧ dkN [(-2147483648, -1)] a1 ∧ a1.toInt + 1 ≤ (0 : Int) ∧ r2 = (-1000001) ∧ K 340 6 = J 340 6 ∧ True) ∨ (dkN [(-1000001, -1000001)] r2 ∧ dkN [(256, 2147483647)] a1 ∧ (0 : Int) + 0 ≤ a1.toInt ∧ (255 : Int) + 1 ≤ a1.toInt ∧ r2 = (-1000001) ∧ K 340 6 = J 340 6 ∧ True) ∨ (dkN [(1, 90)] r2 ∧ dkN [(0, 255)] a1 ∧ dkN [(1, 90)] (K 340 6) ∧ (0 : Int) + 0 ≤ a1.toInt ∧ a1.toInt + 0 ≤ (255 : Int) ∧ (J 340 6).toInt ≠ (90 : Int) ∧ ((J 340 6) + 1).toInt = (J 340 6).toInt + (1 : Int) ∧ r2 = (J 340 6) + 1 ∧ K 340 6 = (J 340 6) + 1 ∧ True) ∨ (dkN [(-1000003, -1000003)] r2 ∧ dkN [(0, 255)] a1 ∧ dkN [(90, 90)] (K 340 6) ∧ (0 : Int) + 0 ≤ a1.toInt ∧ a1.toInt + 0 ≤ (255 : Int) ∧ (J 340 6).toInt = (90 : Int) ∧ r2 = (-1000003) ∧ K 340 6 = J 340 6 ∧ True))) : r1 = r2 ∧ dkTap K := by
  have e : J 340 6 = I 340 6 := f1 340 6 rfl
  have g : K 12 1 = J 12 1 := f2 12 1 rfl
  have hr : (I 12 1).toInt = (I 340 6).toInt := by rw [show I 12 1 = I 340 6 from hR]
  obtain ⟨p, hp, b1, b2⟩ := (show dkN [(0, 90)] (I 12 1) from hO 12 1)
  rw [List.mem_singleton] at hp
  subst hp
  simp only at b1 b2
  simp only [e] at hc2
  have hR9 : I 12 1 = I 340 6 := hR
  all_goals (rcases hc1 with ⟨-, -, u0a, ERa, H12a, -⟩ | ⟨-, -, u0a, u1a, ERa, H12a, -⟩ | ⟨-, -, -, u0a, u1a, u2a, u3a, ERa, H12a, -⟩ | ⟨-, -, -, u0a, u1a, u2a, u3a, ERa, H12a, -⟩ | ⟨-, -, -, u0a, u1a, u2a, ERa, H12a, -⟩ <;> rcases hc2 with ⟨-, -, u0b, ERb, H340b, -⟩ | ⟨-, -, u0b, u1b, ERb, H340b, -⟩ | ⟨-, -, -, u0b, u1b, u2b, u3b, ERb, H340b, -⟩ | ⟨-, -, -, u0b, u1b, u2b, ERb, H340b, -⟩ <;> first | (exfalso; omega) | exact ⟨(by simp only [ERa, ERb, hR9]), (show K 12 1 = K 340 6 by rw [g, H12a, H340b, hR9])⟩)
