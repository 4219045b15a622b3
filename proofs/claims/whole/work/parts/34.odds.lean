/-! ===== L2: dry days by odds ===== -/
section E14
variable {P : Nat} {st now : Nat → Int32} {Da Dr : Int32} {Na Mo Wa De : Nat → Int32}
/-- the weighed sum behind n days -/
def wS (P : Nat) (Na Wa : Nat → Int32) (Dr v : Int32) (wf : (Nat → Int32) → Int64) : Nat → (Nat → Int32) → (Nat → Int32) → Int64
  | 0, _, De => wf De
  | n + 1, Mo, De => v.toInt64 * wS P Na Wa Dr v wf n (dMo P Na Wa 9 Mo De) (dDe P Na Wa 9 Mo De) + (10 - v).toInt64 * wS P Na Wa Dr v wf n (dMo P Na Wa Dr Mo De) (dDe P Na Wa Dr Mo De)
theorem l_zm (a : Int64) : 0 * a = 0 := Int64.zero_mul
theorem l_za (a : Int64) : 0 + a = a := Int64.zero_add a
theorem l_az (a : Int64) : a + 0 = a := Int64.add_zero a
theorem w_v {w : Nat} (h : w ≤ 10) : (10 : Int32) - nI w = nI (10 - w) := by
  have e : (10 : Int32) = nI 10 := rfl
  rw [e, pk_sub h]
variable {v p3 : Int32} {wf : (Nat → Int32) → Int64}
theorem X_w8 (hw : ∀ De, f_X2_worth (nI P) De p3 = some (wf De)) {N : Nat} (De : Nat → Int32) : f_X2_weighed_8 (nI P) De v p3 (nI N) = some (wf De) := by
  unfold f_X2_weighed_8 f_X2_weighed_8_B17
  rw [hw, b1_some]
  by_cases c : nI N ≤ 8
  · rw [if_pos c]
  · rw [if_neg c]
theorem X_w7 (hw : ∀ De, f_X2_worth (nI P) De p3 = some (wf De)) (hP : P ≤ 5) {w : Nat} (hwv : w ≤ 10) {N : Nat} (hN : 7 ≤ N) (hN2 : N ≤ 8) (Da : Int32) (Mo De : Nat → Int32) : f_X2_weighed_7 (nI P) Da Dr Na Mo Wa De (nI w) p3 (nI N) = some (wS P Na Wa Dr (nI w) wf (N - 7) Mo De) := by
  unfold f_X2_weighed_7 f_X2_weighed_7_B17
  by_cases c : N ≤ 7
  · have : N = 7 := by omega
    subst this
    rw [if_pos (by decide), hw, b1_some]; rfl
  · rw [if_neg (show ¬ nI N ≤ 7 from nI_ge (a := 7) (by omega) (by omega))]
    have e9 : f_X2_weighed_8 (nI P) (dDe P Na Wa 9 Mo De) (nI w) p3 (nI N) = some (wS P Na Wa Dr (nI w) wf (N - 8) (dMo P Na Wa 9 Mo De) (dDe P Na Wa 9 Mo De)) := by
      have : N = 8 := by omega
      subst this
      exact (X_w8 hw (v := nI w) (N := 8) (dDe P Na Wa 9 Mo De))
    have eD : f_X2_weighed_8 (nI P) (dDe P Na Wa Dr Mo De) (nI w) p3 (nI N) = some (wS P Na Wa Dr (nI w) wf (N - 8) (dMo P Na Wa Dr Mo De) (dDe P Na Wa Dr Mo De)) := by
      have : N = 8 := by omega
      subst this
      exact (X_w8 hw (v := nI w) (N := 8) (dDe P Na Wa Dr Mo De))
    have en : N - 7 = (N - 8) + 1 := by omega
    rw [en, wS]
    generalize wS P Na Wa Dr (nI w) wf (N - 8) (dMo P Na Wa 9 Mo De) (dDe P Na Wa 9 Mo De) = A at e9 ⊢
    generalize wS P Na Wa Dr (nI w) wf (N - 8) (dMo P Na Wa Dr Mo De) (dDe P Na Wa Dr Mo De) = B at eD ⊢
    have s2 : ∀ n s, f_X2_weighed_7_L44 (nI P) Da Dr Na Mo Wa De (nI w) p3 (nI N) (n + 1) s 2 = some s := by
      intro n s
      rw [f_X2_weighed_7_L44, if_pos (by decide)]
    have s1 : ∀ n s, f_X2_weighed_7_L44 (nI P) Da Dr Na Mo Wa De (nI w) p3 (nI N) (n + 2) s 1 = some (s + (10 - nI w).toInt64 * B) := by
      intro n s
      rw [f_X2_weighed_7_L44, if_neg (by decide)]
      simp only [if_neg n10, b1_some]
      rw [w_v hwv]
      by_cases c0 : 10 - w = 0
      · rw [c0, if_pos (by decide)]
        have z : (nI 0).toInt64 * B = 0 := l_zm B
        rw [z, l_az]
        exact s2 n s
      · rw [if_neg (nI_nle (by omega) (by omega))]
        unfold f_X1_become
        rw [b7_some, X_runDay hP, b4_some]
        show b1 (f_X2_weighed_8 (nI P) (dDe P Na Wa Dr Mo De) (nI w) p3 (nI N)) _ = _
        rw [eD, b1_some]
        exact s2 n _
    have s0 : ∀ n, f_X2_weighed_7_L44 (nI P) Da Dr Na Mo Wa De (nI w) p3 (nI N) (n + 3) 0 0 = some ((nI w).toInt64 * A + (10 - nI w).toInt64 * B) := by
      intro n
      rw [f_X2_weighed_7_L44, if_neg (by decide)]
      simp only [if_pos, b1_some]
      by_cases c0 : w = 0
      · subst c0
        rw [if_pos (by decide)]
        have z : (nI 0).toInt64 * A = 0 := l_zm A
        rw [z]
        exact s1 n 0
      · rw [if_neg (nI_nle (by omega) (by omega))]
        unfold f_X1_become
        rw [b7_some, X_runDay hP, b4_some]
        show b1 (f_X2_weighed_8 (nI P) (dDe P Na Wa 9 Mo De) (nI w) p3 (nI N)) _ = _
        rw [e9, b1_some]
        have := s1 n (0 + (nI w).toInt64 * A)
        rw [l_za] at this
        rw [l_za]
        exact this
    have := s0 397
    rw [this, b1_some]
theorem X_w6 (hw : ∀ De, f_X2_worth (nI P) De p3 = some (wf De)) (hP : P ≤ 5) {w : Nat} (hwv : w ≤ 10) {N : Nat} (hN : 6 ≤ N) (hN2 : N ≤ 8) (Da : Int32) (Mo De : Nat → Int32) : f_X2_weighed_6 (nI P) Da Dr Na Mo Wa De (nI w) p3 (nI N) = some (wS P Na Wa Dr (nI w) wf (N - 6) Mo De) := by
  unfold f_X2_weighed_6 f_X2_weighed_6_B17
  by_cases c : N ≤ 6
  · have : N = 6 := by omega
    subst this
    rw [if_pos (by decide), hw, b1_some]; rfl
  · rw [if_neg (show ¬ nI N ≤ 6 from nI_ge (a := 6) (by omega) (by omega))]
    have e9 : f_X2_weighed_7 (nI P) (Da + 1) Dr Na (dMo P Na Wa 9 Mo De) Wa (dDe P Na Wa 9 Mo De) (nI w) p3 (nI N) = some (wS P Na Wa Dr (nI w) wf (N - 7) (dMo P Na Wa 9 Mo De) (dDe P Na Wa 9 Mo De)) := by
      skip
      skip
      exact (X_w7 hw hP hwv (N := N) (by omega) hN2 (Da + 1) (dMo P Na Wa 9 Mo De) (dDe P Na Wa 9 Mo De))
    have eD : f_X2_weighed_7 (nI P) (Da + 1) Dr Na (dMo P Na Wa Dr Mo De) Wa (dDe P Na Wa Dr Mo De) (nI w) p3 (nI N) = some (wS P Na Wa Dr (nI w) wf (N - 7) (dMo P Na Wa Dr Mo De) (dDe P Na Wa Dr Mo De)) := by
      skip
      skip
      exact (X_w7 hw hP hwv (N := N) (by omega) hN2 (Da + 1) (dMo P Na Wa Dr Mo De) (dDe P Na Wa Dr Mo De))
    have en : N - 6 = (N - 7) + 1 := by omega
    rw [en, wS]
    generalize wS P Na Wa Dr (nI w) wf (N - 7) (dMo P Na Wa 9 Mo De) (dDe P Na Wa 9 Mo De) = A at e9 ⊢
    generalize wS P Na Wa Dr (nI w) wf (N - 7) (dMo P Na Wa Dr Mo De) (dDe P Na Wa Dr Mo De) = B at eD ⊢
    have s2 : ∀ n s, f_X2_weighed_6_L44 (nI P) Da Dr Na Mo Wa De (nI w) p3 (nI N) (n + 1) s 2 = some s := by
      intro n s
      rw [f_X2_weighed_6_L44, if_pos (by decide)]
    have s1 : ∀ n s, f_X2_weighed_6_L44 (nI P) Da Dr Na Mo Wa De (nI w) p3 (nI N) (n + 2) s 1 = some (s + (10 - nI w).toInt64 * B) := by
      intro n s
      rw [f_X2_weighed_6_L44, if_neg (by decide)]
      simp only [if_neg n10, b1_some]
      rw [w_v hwv]
      by_cases c0 : 10 - w = 0
      · rw [c0, if_pos (by decide)]
        have z : (nI 0).toInt64 * B = 0 := l_zm B
        rw [z, l_az]
        exact s2 n s
      · rw [if_neg (nI_nle (by omega) (by omega))]
        unfold f_X1_become
        rw [b7_some, X_runDay hP, b4_some]
        show b1 (f_X2_weighed_7 (nI P) (Da + 1) Dr Na (dMo P Na Wa Dr Mo De) Wa (dDe P Na Wa Dr Mo De) (nI w) p3 (nI N)) _ = _
        rw [eD, b1_some]
        exact s2 n _
    have s0 : ∀ n, f_X2_weighed_6_L44 (nI P) Da Dr Na Mo Wa De (nI w) p3 (nI N) (n + 3) 0 0 = some ((nI w).toInt64 * A + (10 - nI w).toInt64 * B) := by
      intro n
      rw [f_X2_weighed_6_L44, if_neg (by decide)]
      simp only [if_pos, b1_some]
      by_cases c0 : w = 0
      · subst c0
        rw [if_pos (by decide)]
        have z : (nI 0).toInt64 * A = 0 := l_zm A
        rw [z]
        exact s1 n 0
      · rw [if_neg (nI_nle (by omega) (by omega))]
        unfold f_X1_become
        rw [b7_some, X_runDay hP, b4_some]
        show b1 (f_X2_weighed_7 (nI P) (Da + 1) Dr Na (dMo P Na Wa 9 Mo De) Wa (dDe P Na Wa 9 Mo De) (nI w) p3 (nI N)) _ = _
        rw [e9, b1_some]
        have := s1 n (0 + (nI w).toInt64 * A)
        rw [l_za] at this
        rw [l_za]
        exact this
    have := s0 397
    rw [this, b1_some]
theorem X_w5 (hw : ∀ De, f_X2_worth (nI P) De p3 = some (wf De)) (hP : P ≤ 5) {w : Nat} (hwv : w ≤ 10) {N : Nat} (hN : 5 ≤ N) (hN2 : N ≤ 8) (Da : Int32) (Mo De : Nat → Int32) : f_X2_weighed_5 (nI P) Da Dr Na Mo Wa De (nI w) p3 (nI N) = some (wS P Na Wa Dr (nI w) wf (N - 5) Mo De) := by
  unfold f_X2_weighed_5 f_X2_weighed_5_B17
  by_cases c : N ≤ 5
  · have : N = 5 := by omega
    subst this
    rw [if_pos (by decide), hw, b1_some]; rfl
  · rw [if_neg (show ¬ nI N ≤ 5 from nI_ge (a := 5) (by omega) (by omega))]
    have e9 : f_X2_weighed_6 (nI P) (Da + 1) Dr Na (dMo P Na Wa 9 Mo De) Wa (dDe P Na Wa 9 Mo De) (nI w) p3 (nI N) = some (wS P Na Wa Dr (nI w) wf (N - 6) (dMo P Na Wa 9 Mo De) (dDe P Na Wa 9 Mo De)) := by
      skip
      skip
      exact (X_w6 hw hP hwv (N := N) (by omega) hN2 (Da + 1) (dMo P Na Wa 9 Mo De) (dDe P Na Wa 9 Mo De))
    have eD : f_X2_weighed_6 (nI P) (Da + 1) Dr Na (dMo P Na Wa Dr Mo De) Wa (dDe P Na Wa Dr Mo De) (nI w) p3 (nI N) = some (wS P Na Wa Dr (nI w) wf (N - 6) (dMo P Na Wa Dr Mo De) (dDe P Na Wa Dr Mo De)) := by
      skip
      skip
      exact (X_w6 hw hP hwv (N := N) (by omega) hN2 (Da + 1) (dMo P Na Wa Dr Mo De) (dDe P Na Wa Dr Mo De))
    have en : N - 5 = (N - 6) + 1 := by omega
    rw [en, wS]
    generalize wS P Na Wa Dr (nI w) wf (N - 6) (dMo P Na Wa 9 Mo De) (dDe P Na Wa 9 Mo De) = A at e9 ⊢
    generalize wS P Na Wa Dr (nI w) wf (N - 6) (dMo P Na Wa Dr Mo De) (dDe P Na Wa Dr Mo De) = B at eD ⊢
    have s2 : ∀ n s, f_X2_weighed_5_L44 (nI P) Da Dr Na Mo Wa De (nI w) p3 (nI N) (n + 1) s 2 = some s := by
      intro n s
      rw [f_X2_weighed_5_L44, if_pos (by decide)]
    have s1 : ∀ n s, f_X2_weighed_5_L44 (nI P) Da Dr Na Mo Wa De (nI w) p3 (nI N) (n + 2) s 1 = some (s + (10 - nI w).toInt64 * B) := by
      intro n s
      rw [f_X2_weighed_5_L44, if_neg (by decide)]
      simp only [if_neg n10, b1_some]
      rw [w_v hwv]
      by_cases c0 : 10 - w = 0
      · rw [c0, if_pos (by decide)]
        have z : (nI 0).toInt64 * B = 0 := l_zm B
        rw [z, l_az]
        exact s2 n s
      · rw [if_neg (nI_nle (by omega) (by omega))]
        unfold f_X1_become
        rw [b7_some, X_runDay hP, b4_some]
        show b1 (f_X2_weighed_6 (nI P) (Da + 1) Dr Na (dMo P Na Wa Dr Mo De) Wa (dDe P Na Wa Dr Mo De) (nI w) p3 (nI N)) _ = _
        rw [eD, b1_some]
        exact s2 n _
    have s0 : ∀ n, f_X2_weighed_5_L44 (nI P) Da Dr Na Mo Wa De (nI w) p3 (nI N) (n + 3) 0 0 = some ((nI w).toInt64 * A + (10 - nI w).toInt64 * B) := by
      intro n
      rw [f_X2_weighed_5_L44, if_neg (by decide)]
      simp only [if_pos, b1_some]
      by_cases c0 : w = 0
      · subst c0
        rw [if_pos (by decide)]
        have z : (nI 0).toInt64 * A = 0 := l_zm A
        rw [z]
        exact s1 n 0
      · rw [if_neg (nI_nle (by omega) (by omega))]
        unfold f_X1_become
        rw [b7_some, X_runDay hP, b4_some]
        show b1 (f_X2_weighed_6 (nI P) (Da + 1) Dr Na (dMo P Na Wa 9 Mo De) Wa (dDe P Na Wa 9 Mo De) (nI w) p3 (nI N)) _ = _
        rw [e9, b1_some]
        have := s1 n (0 + (nI w).toInt64 * A)
        rw [l_za] at this
        rw [l_za]
        exact this
    have := s0 397
    rw [this, b1_some]
theorem X_w4 (hw : ∀ De, f_X2_worth (nI P) De p3 = some (wf De)) (hP : P ≤ 5) {w : Nat} (hwv : w ≤ 10) {N : Nat} (hN : 4 ≤ N) (hN2 : N ≤ 8) (Da : Int32) (Mo De : Nat → Int32) : f_X2_weighed_4 (nI P) Da Dr Na Mo Wa De (nI w) p3 (nI N) = some (wS P Na Wa Dr (nI w) wf (N - 4) Mo De) := by
  unfold f_X2_weighed_4 f_X2_weighed_4_B17
  by_cases c : N ≤ 4
  · have : N = 4 := by omega
    subst this
    rw [if_pos (by decide), hw, b1_some]; rfl
  · rw [if_neg (show ¬ nI N ≤ 4 from nI_ge (a := 4) (by omega) (by omega))]
    have e9 : f_X2_weighed_5 (nI P) (Da + 1) Dr Na (dMo P Na Wa 9 Mo De) Wa (dDe P Na Wa 9 Mo De) (nI w) p3 (nI N) = some (wS P Na Wa Dr (nI w) wf (N - 5) (dMo P Na Wa 9 Mo De) (dDe P Na Wa 9 Mo De)) := by
      skip
      skip
      exact (X_w5 hw hP hwv (N := N) (by omega) hN2 (Da + 1) (dMo P Na Wa 9 Mo De) (dDe P Na Wa 9 Mo De))
    have eD : f_X2_weighed_5 (nI P) (Da + 1) Dr Na (dMo P Na Wa Dr Mo De) Wa (dDe P Na Wa Dr Mo De) (nI w) p3 (nI N) = some (wS P Na Wa Dr (nI w) wf (N - 5) (dMo P Na Wa Dr Mo De) (dDe P Na Wa Dr Mo De)) := by
      skip
      skip
      exact (X_w5 hw hP hwv (N := N) (by omega) hN2 (Da + 1) (dMo P Na Wa Dr Mo De) (dDe P Na Wa Dr Mo De))
    have en : N - 4 = (N - 5) + 1 := by omega
    rw [en, wS]
    generalize wS P Na Wa Dr (nI w) wf (N - 5) (dMo P Na Wa 9 Mo De) (dDe P Na Wa 9 Mo De) = A at e9 ⊢
    generalize wS P Na Wa Dr (nI w) wf (N - 5) (dMo P Na Wa Dr Mo De) (dDe P Na Wa Dr Mo De) = B at eD ⊢
    have s2 : ∀ n s, f_X2_weighed_4_L44 (nI P) Da Dr Na Mo Wa De (nI w) p3 (nI N) (n + 1) s 2 = some s := by
      intro n s
      rw [f_X2_weighed_4_L44, if_pos (by decide)]
    have s1 : ∀ n s, f_X2_weighed_4_L44 (nI P) Da Dr Na Mo Wa De (nI w) p3 (nI N) (n + 2) s 1 = some (s + (10 - nI w).toInt64 * B) := by
      intro n s
      rw [f_X2_weighed_4_L44, if_neg (by decide)]
      simp only [if_neg n10, b1_some]
      rw [w_v hwv]
      by_cases c0 : 10 - w = 0
      · rw [c0, if_pos (by decide)]
        have z : (nI 0).toInt64 * B = 0 := l_zm B
        rw [z, l_az]
        exact s2 n s
      · rw [if_neg (nI_nle (by omega) (by omega))]
        unfold f_X1_become
        rw [b7_some, X_runDay hP, b4_some]
        show b1 (f_X2_weighed_5 (nI P) (Da + 1) Dr Na (dMo P Na Wa Dr Mo De) Wa (dDe P Na Wa Dr Mo De) (nI w) p3 (nI N)) _ = _
        rw [eD, b1_some]
        exact s2 n _
    have s0 : ∀ n, f_X2_weighed_4_L44 (nI P) Da Dr Na Mo Wa De (nI w) p3 (nI N) (n + 3) 0 0 = some ((nI w).toInt64 * A + (10 - nI w).toInt64 * B) := by
      intro n
      rw [f_X2_weighed_4_L44, if_neg (by decide)]
      simp only [if_pos, b1_some]
      by_cases c0 : w = 0
      · subst c0
        rw [if_pos (by decide)]
        have z : (nI 0).toInt64 * A = 0 := l_zm A
        rw [z]
        exact s1 n 0
      · rw [if_neg (nI_nle (by omega) (by omega))]
        unfold f_X1_become
        rw [b7_some, X_runDay hP, b4_some]
        show b1 (f_X2_weighed_5 (nI P) (Da + 1) Dr Na (dMo P Na Wa 9 Mo De) Wa (dDe P Na Wa 9 Mo De) (nI w) p3 (nI N)) _ = _
        rw [e9, b1_some]
        have := s1 n (0 + (nI w).toInt64 * A)
        rw [l_za] at this
        rw [l_za]
        exact this
    have := s0 397
    rw [this, b1_some]
theorem X_w3 (hw : ∀ De, f_X2_worth (nI P) De p3 = some (wf De)) (hP : P ≤ 5) {w : Nat} (hwv : w ≤ 10) {N : Nat} (hN : 3 ≤ N) (hN2 : N ≤ 8) (Da : Int32) (Mo De : Nat → Int32) : f_X2_weighed_3 (nI P) Da Dr Na Mo Wa De (nI w) p3 (nI N) = some (wS P Na Wa Dr (nI w) wf (N - 3) Mo De) := by
  unfold f_X2_weighed_3 f_X2_weighed_3_B17
  by_cases c : N ≤ 3
  · have : N = 3 := by omega
    subst this
    rw [if_pos (by decide), hw, b1_some]; rfl
  · rw [if_neg (show ¬ nI N ≤ 3 from nI_ge (a := 3) (by omega) (by omega))]
    have e9 : f_X2_weighed_4 (nI P) (Da + 1) Dr Na (dMo P Na Wa 9 Mo De) Wa (dDe P Na Wa 9 Mo De) (nI w) p3 (nI N) = some (wS P Na Wa Dr (nI w) wf (N - 4) (dMo P Na Wa 9 Mo De) (dDe P Na Wa 9 Mo De)) := by
      skip
      skip
      exact (X_w4 hw hP hwv (N := N) (by omega) hN2 (Da + 1) (dMo P Na Wa 9 Mo De) (dDe P Na Wa 9 Mo De))
    have eD : f_X2_weighed_4 (nI P) (Da + 1) Dr Na (dMo P Na Wa Dr Mo De) Wa (dDe P Na Wa Dr Mo De) (nI w) p3 (nI N) = some (wS P Na Wa Dr (nI w) wf (N - 4) (dMo P Na Wa Dr Mo De) (dDe P Na Wa Dr Mo De)) := by
      skip
      skip
      exact (X_w4 hw hP hwv (N := N) (by omega) hN2 (Da + 1) (dMo P Na Wa Dr Mo De) (dDe P Na Wa Dr Mo De))
    have en : N - 3 = (N - 4) + 1 := by omega
    rw [en, wS]
    generalize wS P Na Wa Dr (nI w) wf (N - 4) (dMo P Na Wa 9 Mo De) (dDe P Na Wa 9 Mo De) = A at e9 ⊢
    generalize wS P Na Wa Dr (nI w) wf (N - 4) (dMo P Na Wa Dr Mo De) (dDe P Na Wa Dr Mo De) = B at eD ⊢
    have s2 : ∀ n s, f_X2_weighed_3_L44 (nI P) Da Dr Na Mo Wa De (nI w) p3 (nI N) (n + 1) s 2 = some s := by
      intro n s
      rw [f_X2_weighed_3_L44, if_pos (by decide)]
    have s1 : ∀ n s, f_X2_weighed_3_L44 (nI P) Da Dr Na Mo Wa De (nI w) p3 (nI N) (n + 2) s 1 = some (s + (10 - nI w).toInt64 * B) := by
      intro n s
      rw [f_X2_weighed_3_L44, if_neg (by decide)]
      simp only [if_neg n10, b1_some]
      rw [w_v hwv]
      by_cases c0 : 10 - w = 0
      · rw [c0, if_pos (by decide)]
        have z : (nI 0).toInt64 * B = 0 := l_zm B
        rw [z, l_az]
        exact s2 n s
      · rw [if_neg (nI_nle (by omega) (by omega))]
        unfold f_X1_become
        rw [b7_some, X_runDay hP, b4_some]
        show b1 (f_X2_weighed_4 (nI P) (Da + 1) Dr Na (dMo P Na Wa Dr Mo De) Wa (dDe P Na Wa Dr Mo De) (nI w) p3 (nI N)) _ = _
        rw [eD, b1_some]
        exact s2 n _
    have s0 : ∀ n, f_X2_weighed_3_L44 (nI P) Da Dr Na Mo Wa De (nI w) p3 (nI N) (n + 3) 0 0 = some ((nI w).toInt64 * A + (10 - nI w).toInt64 * B) := by
      intro n
      rw [f_X2_weighed_3_L44, if_neg (by decide)]
      simp only [if_pos, b1_some]
      by_cases c0 : w = 0
      · subst c0
        rw [if_pos (by decide)]
        have z : (nI 0).toInt64 * A = 0 := l_zm A
        rw [z]
        exact s1 n 0
      · rw [if_neg (nI_nle (by omega) (by omega))]
        unfold f_X1_become
        rw [b7_some, X_runDay hP, b4_some]
        show b1 (f_X2_weighed_4 (nI P) (Da + 1) Dr Na (dMo P Na Wa 9 Mo De) Wa (dDe P Na Wa 9 Mo De) (nI w) p3 (nI N)) _ = _
        rw [e9, b1_some]
        have := s1 n (0 + (nI w).toInt64 * A)
        rw [l_za] at this
        rw [l_za]
        exact this
    have := s0 397
    rw [this, b1_some]
theorem X_w2 (hw : ∀ De, f_X2_worth (nI P) De p3 = some (wf De)) (hP : P ≤ 5) {w : Nat} (hwv : w ≤ 10) {N : Nat} (hN : 2 ≤ N) (hN2 : N ≤ 8) (Da : Int32) (Mo De : Nat → Int32) : f_X2_weighed_2 (nI P) Da Dr Na Mo Wa De (nI w) p3 (nI N) = some (wS P Na Wa Dr (nI w) wf (N - 2) Mo De) := by
  unfold f_X2_weighed_2 f_X2_weighed_2_B17
  by_cases c : N ≤ 2
  · have : N = 2 := by omega
    subst this
    rw [if_pos (by decide), hw, b1_some]; rfl
  · rw [if_neg (show ¬ nI N ≤ 2 from nI_ge (a := 2) (by omega) (by omega))]
    have e9 : f_X2_weighed_3 (nI P) (Da + 1) Dr Na (dMo P Na Wa 9 Mo De) Wa (dDe P Na Wa 9 Mo De) (nI w) p3 (nI N) = some (wS P Na Wa Dr (nI w) wf (N - 3) (dMo P Na Wa 9 Mo De) (dDe P Na Wa 9 Mo De)) := by
      skip
      skip
      exact (X_w3 hw hP hwv (N := N) (by omega) hN2 (Da + 1) (dMo P Na Wa 9 Mo De) (dDe P Na Wa 9 Mo De))
    have eD : f_X2_weighed_3 (nI P) (Da + 1) Dr Na (dMo P Na Wa Dr Mo De) Wa (dDe P Na Wa Dr Mo De) (nI w) p3 (nI N) = some (wS P Na Wa Dr (nI w) wf (N - 3) (dMo P Na Wa Dr Mo De) (dDe P Na Wa Dr Mo De)) := by
      skip
      skip
      exact (X_w3 hw hP hwv (N := N) (by omega) hN2 (Da + 1) (dMo P Na Wa Dr Mo De) (dDe P Na Wa Dr Mo De))
    have en : N - 2 = (N - 3) + 1 := by omega
    rw [en, wS]
    generalize wS P Na Wa Dr (nI w) wf (N - 3) (dMo P Na Wa 9 Mo De) (dDe P Na Wa 9 Mo De) = A at e9 ⊢
    generalize wS P Na Wa Dr (nI w) wf (N - 3) (dMo P Na Wa Dr Mo De) (dDe P Na Wa Dr Mo De) = B at eD ⊢
    have s2 : ∀ n s, f_X2_weighed_2_L44 (nI P) Da Dr Na Mo Wa De (nI w) p3 (nI N) (n + 1) s 2 = some s := by
      intro n s
      rw [f_X2_weighed_2_L44, if_pos (by decide)]
    have s1 : ∀ n s, f_X2_weighed_2_L44 (nI P) Da Dr Na Mo Wa De (nI w) p3 (nI N) (n + 2) s 1 = some (s + (10 - nI w).toInt64 * B) := by
      intro n s
      rw [f_X2_weighed_2_L44, if_neg (by decide)]
      simp only [if_neg n10, b1_some]
      rw [w_v hwv]
      by_cases c0 : 10 - w = 0
      · rw [c0, if_pos (by decide)]
        have z : (nI 0).toInt64 * B = 0 := l_zm B
        rw [z, l_az]
        exact s2 n s
      · rw [if_neg (nI_nle (by omega) (by omega))]
        unfold f_X1_become
        rw [b7_some, X_runDay hP, b4_some]
        show b1 (f_X2_weighed_3 (nI P) (Da + 1) Dr Na (dMo P Na Wa Dr Mo De) Wa (dDe P Na Wa Dr Mo De) (nI w) p3 (nI N)) _ = _
        rw [eD, b1_some]
        exact s2 n _
    have s0 : ∀ n, f_X2_weighed_2_L44 (nI P) Da Dr Na Mo Wa De (nI w) p3 (nI N) (n + 3) 0 0 = some ((nI w).toInt64 * A + (10 - nI w).toInt64 * B) := by
      intro n
      rw [f_X2_weighed_2_L44, if_neg (by decide)]
      simp only [if_pos, b1_some]
      by_cases c0 : w = 0
      · subst c0
        rw [if_pos (by decide)]
        have z : (nI 0).toInt64 * A = 0 := l_zm A
        rw [z]
        exact s1 n 0
      · rw [if_neg (nI_nle (by omega) (by omega))]
        unfold f_X1_become
        rw [b7_some, X_runDay hP, b4_some]
        show b1 (f_X2_weighed_3 (nI P) (Da + 1) Dr Na (dMo P Na Wa 9 Mo De) Wa (dDe P Na Wa 9 Mo De) (nI w) p3 (nI N)) _ = _
        rw [e9, b1_some]
        have := s1 n (0 + (nI w).toInt64 * A)
        rw [l_za] at this
        rw [l_za]
        exact this
    have := s0 397
    rw [this, b1_some]
theorem X_w1 (hw : ∀ De, f_X2_worth (nI P) De p3 = some (wf De)) (hP : P ≤ 5) {w : Nat} (hwv : w ≤ 10) {N : Nat} (hN : 1 ≤ N) (hN2 : N ≤ 8) (Da : Int32) (Mo De : Nat → Int32) : f_X2_weighed_1 (nI P) Da Dr Na Mo Wa De (nI w) p3 (nI N) = some (wS P Na Wa Dr (nI w) wf (N - 1) Mo De) := by
  unfold f_X2_weighed_1 f_X2_weighed_1_B17
  by_cases c : N ≤ 1
  · have : N = 1 := by omega
    subst this
    rw [if_pos (by decide), hw, b1_some]; rfl
  · rw [if_neg (show ¬ nI N ≤ 1 from nI_ge (a := 1) (by omega) (by omega))]
    have e9 : f_X2_weighed_2 (nI P) (Da + 1) Dr Na (dMo P Na Wa 9 Mo De) Wa (dDe P Na Wa 9 Mo De) (nI w) p3 (nI N) = some (wS P Na Wa Dr (nI w) wf (N - 2) (dMo P Na Wa 9 Mo De) (dDe P Na Wa 9 Mo De)) := by
      skip
      skip
      exact (X_w2 hw hP hwv (N := N) (by omega) hN2 (Da + 1) (dMo P Na Wa 9 Mo De) (dDe P Na Wa 9 Mo De))
    have eD : f_X2_weighed_2 (nI P) (Da + 1) Dr Na (dMo P Na Wa Dr Mo De) Wa (dDe P Na Wa Dr Mo De) (nI w) p3 (nI N) = some (wS P Na Wa Dr (nI w) wf (N - 2) (dMo P Na Wa Dr Mo De) (dDe P Na Wa Dr Mo De)) := by
      skip
      skip
      exact (X_w2 hw hP hwv (N := N) (by omega) hN2 (Da + 1) (dMo P Na Wa Dr Mo De) (dDe P Na Wa Dr Mo De))
    have en : N - 1 = (N - 2) + 1 := by omega
    rw [en, wS]
    generalize wS P Na Wa Dr (nI w) wf (N - 2) (dMo P Na Wa 9 Mo De) (dDe P Na Wa 9 Mo De) = A at e9 ⊢
    generalize wS P Na Wa Dr (nI w) wf (N - 2) (dMo P Na Wa Dr Mo De) (dDe P Na Wa Dr Mo De) = B at eD ⊢
    have s2 : ∀ n s, f_X2_weighed_1_L44 (nI P) Da Dr Na Mo Wa De (nI w) p3 (nI N) (n + 1) s 2 = some s := by
      intro n s
      rw [f_X2_weighed_1_L44, if_pos (by decide)]
    have s1 : ∀ n s, f_X2_weighed_1_L44 (nI P) Da Dr Na Mo Wa De (nI w) p3 (nI N) (n + 2) s 1 = some (s + (10 - nI w).toInt64 * B) := by
      intro n s
      rw [f_X2_weighed_1_L44, if_neg (by decide)]
      simp only [if_neg n10, b1_some]
      rw [w_v hwv]
      by_cases c0 : 10 - w = 0
      · rw [c0, if_pos (by decide)]
        have z : (nI 0).toInt64 * B = 0 := l_zm B
        rw [z, l_az]
        exact s2 n s
      · rw [if_neg (nI_nle (by omega) (by omega))]
        unfold f_X1_become
        rw [b7_some, X_runDay hP, b4_some]
        show b1 (f_X2_weighed_2 (nI P) (Da + 1) Dr Na (dMo P Na Wa Dr Mo De) Wa (dDe P Na Wa Dr Mo De) (nI w) p3 (nI N)) _ = _
        rw [eD, b1_some]
        exact s2 n _
    have s0 : ∀ n, f_X2_weighed_1_L44 (nI P) Da Dr Na Mo Wa De (nI w) p3 (nI N) (n + 3) 0 0 = some ((nI w).toInt64 * A + (10 - nI w).toInt64 * B) := by
      intro n
      rw [f_X2_weighed_1_L44, if_neg (by decide)]
      simp only [if_pos, b1_some]
      by_cases c0 : w = 0
      · subst c0
        rw [if_pos (by decide)]
        have z : (nI 0).toInt64 * A = 0 := l_zm A
        rw [z]
        exact s1 n 0
      · rw [if_neg (nI_nle (by omega) (by omega))]
        unfold f_X1_become
        rw [b7_some, X_runDay hP, b4_some]
        show b1 (f_X2_weighed_2 (nI P) (Da + 1) Dr Na (dMo P Na Wa 9 Mo De) Wa (dDe P Na Wa 9 Mo De) (nI w) p3 (nI N)) _ = _
        rw [e9, b1_some]
        have := s1 n (0 + (nI w).toInt64 * A)
        rw [l_za] at this
        rw [l_za]
        exact this
    have := s0 397
    rw [this, b1_some]
theorem X_w0 (hw : ∀ De, f_X2_worth (nI P) De p3 = some (wf De)) (hP : P ≤ 5) {w : Nat} (hwv : w ≤ 10) {N : Nat} (hN : 0 ≤ N) (hN2 : N ≤ 8) (Da : Int32) (Mo De : Nat → Int32) : f_X2_weighed_0 (nI P) Da Dr Na Mo Wa De (nI w) p3 (nI N) = some (wS P Na Wa Dr (nI w) wf (N - 0) Mo De) := by
  unfold f_X2_weighed_0 f_X2_weighed_0_B17
  by_cases c : N ≤ 0
  · have : N = 0 := by omega
    subst this
    rw [if_pos (by decide), hw, b1_some]; rfl
  · rw [if_neg (show ¬ nI N ≤ 0 from nI_ge (a := 0) (by omega) (by omega))]
    have e9 : f_X2_weighed_1 (nI P) (Da + 1) Dr Na (dMo P Na Wa 9 Mo De) Wa (dDe P Na Wa 9 Mo De) (nI w) p3 (nI N) = some (wS P Na Wa Dr (nI w) wf (N - 1) (dMo P Na Wa 9 Mo De) (dDe P Na Wa 9 Mo De)) := by
      skip
      skip
      exact (X_w1 hw hP hwv (N := N) (by omega) hN2 (Da + 1) (dMo P Na Wa 9 Mo De) (dDe P Na Wa 9 Mo De))
    have eD : f_X2_weighed_1 (nI P) (Da + 1) Dr Na (dMo P Na Wa Dr Mo De) Wa (dDe P Na Wa Dr Mo De) (nI w) p3 (nI N) = some (wS P Na Wa Dr (nI w) wf (N - 1) (dMo P Na Wa Dr Mo De) (dDe P Na Wa Dr Mo De)) := by
      skip
      skip
      exact (X_w1 hw hP hwv (N := N) (by omega) hN2 (Da + 1) (dMo P Na Wa Dr Mo De) (dDe P Na Wa Dr Mo De))
    have en : N - 0 = (N - 1) + 1 := by omega
    rw [en, wS]
    generalize wS P Na Wa Dr (nI w) wf (N - 1) (dMo P Na Wa 9 Mo De) (dDe P Na Wa 9 Mo De) = A at e9 ⊢
    generalize wS P Na Wa Dr (nI w) wf (N - 1) (dMo P Na Wa Dr Mo De) (dDe P Na Wa Dr Mo De) = B at eD ⊢
    have s2 : ∀ n s, f_X2_weighed_0_L44 (nI P) Da Dr Na Mo Wa De (nI w) p3 (nI N) (n + 1) s 2 = some s := by
      intro n s
      rw [f_X2_weighed_0_L44, if_pos (by decide)]
    have s1 : ∀ n s, f_X2_weighed_0_L44 (nI P) Da Dr Na Mo Wa De (nI w) p3 (nI N) (n + 2) s 1 = some (s + (10 - nI w).toInt64 * B) := by
      intro n s
      rw [f_X2_weighed_0_L44, if_neg (by decide)]
      simp only [if_neg n10, b1_some]
      rw [w_v hwv]
      by_cases c0 : 10 - w = 0
      · rw [c0, if_pos (by decide)]
        have z : (nI 0).toInt64 * B = 0 := l_zm B
        rw [z, l_az]
        exact s2 n s
      · rw [if_neg (nI_nle (by omega) (by omega))]
        unfold f_X1_become
        rw [b7_some, X_runDay hP, b4_some]
        show b1 (f_X2_weighed_1 (nI P) (Da + 1) Dr Na (dMo P Na Wa Dr Mo De) Wa (dDe P Na Wa Dr Mo De) (nI w) p3 (nI N)) _ = _
        rw [eD, b1_some]
        exact s2 n _
    have s0 : ∀ n, f_X2_weighed_0_L44 (nI P) Da Dr Na Mo Wa De (nI w) p3 (nI N) (n + 3) 0 0 = some ((nI w).toInt64 * A + (10 - nI w).toInt64 * B) := by
      intro n
      rw [f_X2_weighed_0_L44, if_neg (by decide)]
      simp only [if_pos, b1_some]
      by_cases c0 : w = 0
      · subst c0
        rw [if_pos (by decide)]
        have z : (nI 0).toInt64 * A = 0 := l_zm A
        rw [z]
        exact s1 n 0
      · rw [if_neg (nI_nle (by omega) (by omega))]
        unfold f_X1_become
        rw [b7_some, X_runDay hP, b4_some]
        show b1 (f_X2_weighed_1 (nI P) (Da + 1) Dr Na (dMo P Na Wa 9 Mo De) Wa (dDe P Na Wa 9 Mo De) (nI w) p3 (nI N)) _ = _
        rw [e9, b1_some]
        have := s1 n (0 + (nI w).toInt64 * A)
        rw [l_za] at this
        rw [l_za]
        exact this
    have := s0 397
    rw [this, b1_some]
/-! the reference: a way through the days by its number -/
def wy (v : Int32) : Nat → Nat → Int64
  | 0, _ => 1
  | d + 1, m => (if m % 2 = 1 then v.toInt64 else (10 - v).toInt64) * wy v d (m / 2)
def lm (P : Nat) (Na Wa : Nat → Int32) (Dr : Int32) : Nat → Nat → (Nat → Int32) → (Nat → Int32) → (Nat → Int32) × (Nat → Int32)
  | 0, _, Mo, De => (Mo, De)
  | d + 1, m, Mo, De => if m % 2 = 1 then lm P Na Wa Dr d (m / 2) (dMo P Na Wa 9 Mo De) (dDe P Na Wa 9 Mo De) else lm P Na Wa Dr d (m / 2) (dMo P Na Wa Dr Mo De) (dDe P Na Wa Dr Mo De)
theorem odd_bit {m k : Nat} (hm : m < 256) (hk : k < 8) : ((nI m >>> (nI k &&& 31)) &&& 1 = 1) ↔ m / 2 ^ k % 2 = 1 := by
  have hs : ((nI k &&& 31).toBitVec.smod 32).toNat = k := by
    match k, hk with
    | 0, _ => decide
    | 1, _ => decide
    | 2, _ => decide
    | 3, _ => decide
    | 4, _ => decide
    | 5, _ => decide
    | 6, _ => decide
    | 7, _ => decide
  rw [pk_shrN (by omega) _ k hs]
  have hq : m / 2 ^ k ≤ m := Nat.div_le_self _ _
  have h := pk_andN (n := m / 2 ^ k) (by omega) (m := 1) 1 rfl
  rw [h]
  have e1 : (1 : Int32) = nI 1 := rfl
  rw [e1]
  exact nI_eq (by omega) (by omega)
theorem M_way_L {N m : Nat} (hN : N ≤ 8) (hm : m < 256) (hP : P ≤ 5) (hNa : NaOK P Na) (h41 : st 41 = Dr) : ∀ (d k : Nat) (a : Int64) (Da Dr' : Int32) (Mo De now : Nat → Int32) (paid : Int32) (n : Nat), k + d = N → d < n → RR P now Da Dr' Na Mo Wa De → ∃ now' paid' Da' Dr'', f_X8_findOdds_L63 st (nI P) v (nI N) (nI m) n a (nI k) now paid = some (a * wy v d (m / 2 ^ k), now', paid') ∧ RR P now' Da' Dr'' Na (lm P Na Wa Dr d (m / 2 ^ k) Mo De).1 Wa (lm P Na Wa Dr d (m / 2 ^ k) Mo De).2 := by
  intro d
  induction d with
  | zero =>
    intro k a Da Dr' Mo De now paid n hk hn hR
    obtain ⟨n, rfl⟩ : ∃ m, n = m + 1 := ⟨n - 1, by omega⟩
    rw [f_X8_findOdds_L63, if_pos (nI_le (by omega) (by omega)), wy, Int64.mul_one]
    exact ⟨_, _, _, _, rfl, hR⟩
  | succ d ih =>
    intro k a Da Dr' Mo De now paid n hk hn hR
    obtain ⟨n, rfl⟩ : ∃ m, n = m + 1 := ⟨n - 1, by omega⟩
    have r41 : rd st 183 41 = some (st 41) := rd183 (i := 41) (by omega)
    have w41 : ∀ t, wr now 61 41 t = some (upd now 41 t) := fun t => wr_nI (i := 41) (by omega) (by omega)
    have eq2 : m / 2 ^ k / 2 = m / 2 ^ (k + 1) := by rw [Nat.pow_succ, Nat.div_div_eq_div_mul]
    rw [f_X8_findOdds_L63, if_neg (nI_ge (by omega) (by omega)), r41, h41, wy, lm, eq2, nI_1]
    by_cases c : m / 2 ^ k % 2 = 1
    · obtain ⟨n1, q1, e1, h1⟩ := M_day (hR.dry hP 9) hNa hP paid
      rw [if_pos ((odd_bit hm (by omega)).mpr c), if_pos c, if_pos c]
      simp only [b1_some, if_neg n10]
      rw [w41, b1_some, e1, b2_some, ← Int64.mul_assoc]
      exact ih (k + 1) _ _ _ _ _ _ _ n (by omega) (by omega) h1
    · obtain ⟨n1, q1, e1, h1⟩ := M_day (hR.dry hP Dr) hNa hP paid
      rw [if_neg (fun z => c ((odd_bit hm (by omega)).mp z)), if_neg c, if_neg c]
      simp only [b1_some, if_pos]
      rw [w41, b1_some, e1, b2_some, ← Int64.mul_assoc]
      exact ih (k + 1) _ _ _ _ _ _ _ n (by omega) (by omega) h1
def sumL (f : Nat → Int64) : Nat → Int64
  | 0 => 0
  | n + 1 => sumL f n + f n
def gW (P : Nat) (Na Wa : Nat → Int32) (Dr v : Int32) (wf : (Nat → Int32) → Int64) (n : Nat) (Mo De : Nat → Int32) (m : Nat) : Int64 := wy v n m * wf (lm P Na Wa Dr n m Mo De).2
theorem sumL_congr {f g : Nat → Int64} (h : ∀ j, f j = g j) : ∀ n, sumL f n = sumL g n := by
  intro n
  induction n with
  | zero => rfl
  | succ n ih => rw [sumL, sumL, ih, h]
theorem l_ring1 (s a b : Int64) : s + a + b = s + (a + b) := by grind
theorem l_ring2 (a b f g x y : Int64) : a * f + b * g + (a * x + b * y) = a * (f + x) + b * (g + y) := by grind
theorem sumL_pair (f : Nat → Int64) : ∀ n, sumL f (2 * n) = sumL (fun j => f (2 * j) + f (2 * j + 1)) n := by
  intro n
  induction n with
  | zero => rfl
  | succ n ih =>
    show sumL f (2 * n) + f (2 * n) + f (2 * n + 1) = _
    rw [ih, sumL, l_ring1]
theorem sumL_lin (a b : Int64) (f g : Nat → Int64) : ∀ n, sumL (fun j => a * f j + b * g j) n = a * sumL f n + b * sumL g n := by
  intro n
  induction n with
  | zero => rw [sumL, sumL, sumL, Int64.mul_zero, Int64.mul_zero]; rfl
  | succ n ih => rw [sumL, sumL, sumL, ih, l_ring2]
theorem sum_W : ∀ (n : Nat) (Mo De : Nat → Int32), sumL (gW P Na Wa Dr v wf n Mo De) (2 ^ n) = wS P Na Wa Dr v wf n Mo De := by
  intro n
  induction n with
  | zero =>
    intro Mo De
    show (0 : Int64) + 1 * wf De = wf De
    rw [Int64.one_mul, l_za]
  | succ n ih =>
    intro Mo De
    rw [Nat.pow_succ, Nat.mul_comm, sumL_pair, wS, ← ih, ← ih, ← sumL_lin]
    refine sumL_congr (fun j => ?_) _
    have m0 : 2 * j % 2 = 0 := by omega
    have m1 : (2 * j + 1) % 2 = 1 := by omega
    have d0 : 2 * j / 2 = j := by omega
    have d1 : (2 * j + 1) / 2 = j := by omega
    unfold gW
    rw [wy, wy, lm, lm, m0, m1, d0, d1, if_neg (by omega), if_pos rfl, if_neg (by omega), if_pos rfl]
    rw [Int64.add_comm, Int64.mul_assoc, Int64.mul_assoc]
/-- the sums over all ways -/
theorem M_odds_L {N : Nat} {p2 : Int32} (hN : N ≤ 8) (hl : LI P st Da Dr Na Mo Wa De) (rf : (Nat → Int32) → Int64) (hr : ∀ (now : Nat → Int32) (De' : Nat → Int32) (Mo' : Nat → Int32) (Da' Dr' : Int32) (a : Int64), RR P now Da' Dr' Na Mo' Wa De' → (if p2 = (-4) then some 0 else b1 (f_X8_owesAll now (nI P) p2) fun r => if r = 0 then some a else some 0) = some (a * rf De')) : ∀ (d i : Nat) (now : Nat → Int32) (paid : Int32) (n : Nat), i + d = 2 ^ N → d < n → ∃ now' paid', f_X8_findOdds_L45 st (nI P) v p2 (nI N) n (nI i) now paid (sumL (gW P Na Wa Dr v rf N Mo De) i) (sumL (gW P Na Wa Dr v (fun De => (allO De P).toInt64) N Mo De) i) = some (now', paid', sumL (gW P Na Wa Dr v rf N Mo De) (2 ^ N), sumL (gW P Na Wa Dr v (fun De => (allO De P).toInt64) N Mo De) (2 ^ N)) := by
  have hP := hl.1
  have h8 : 2 ^ N ≤ 256 := by
    have : 2 ^ N ≤ 2 ^ 8 := Nat.pow_le_pow_right (by omega) hN
    omega
  have sh : (1 : Int32) <<< (nI N &&& 31) = nI (2 ^ N) := by
    match N, hN with
    | 0, _ => decide
    | 1, _ => decide
    | 2, _ => decide
    | 3, _ => decide
    | 4, _ => decide
    | 5, _ => decide
    | 6, _ => decide
    | 7, _ => decide
    | 8, _ => decide
  intro d
  induction d with
  | zero =>
    intro i now paid n hi hn
    obtain ⟨n, rfl⟩ : ∃ m, n = m + 1 := ⟨n - 1, by omega⟩
    have : i = 2 ^ N := by omega
    rw [f_X8_findOdds_L45, sh, if_pos (nI_le (by omega) (by omega)), this]
    exact ⟨_, _, rfl⟩
  | succ d ih =>
    intro i now paid n hi hn
    obtain ⟨n, rfl⟩ : ∃ m, n = m + 1 := ⟨n - 1, by omega⟩
    obtain ⟨n1, e1, h1, hR⟩ := e_start hl now
    obtain ⟨n2, q2, Da2, Dr2, e2, h2⟩ := M_way_L (v := v) (N := N) (m := i) hN (by omega) hP hl.2.2.1 hl.2.1.2.1 N 0 1 Da Dr Mo De n1 paid 400 (by omega) (by omega) hR
    rw [Nat.pow_zero, Nat.div_one, Int64.one_mul, nI_0] at e2
    rw [Nat.pow_zero, Nat.div_one] at h2
    rw [f_X8_findOdds_L45, sh, if_neg (nI_ge (by omega) (by omega)), e1, b1_some, e2, b3_some, hr _ _ _ _ _ _ h2, b1_some, M_allOwed h2 hP, b1_some, nI_1]
    exact ih (i + 1) n2 q2 n (by omega) (by omega)
theorem M_pow_L {N : Nat} (hN : N ≤ 8) : ∀ (d i : Nat) (n : Nat), i + d = N → d < n → f_X8_findOdds_L18 (nI N) n (nI i) (lN (10 ^ i)) = some (lN (10 ^ N)) := by
  intro d
  induction d with
  | zero =>
    intro i n hi hn
    obtain ⟨n, rfl⟩ : ∃ m, n = m + 1 := ⟨n - 1, by omega⟩
    have : i = N := by omega
    rw [f_X8_findOdds_L18, if_pos (nI_le (by omega) (by omega)), this]
  | succ d ih =>
    intro i n hi hn
    obtain ⟨n, rfl⟩ : ∃ m, n = m + 1 := ⟨n - 1, by omega⟩
    have e : (10 : Int64) = lN 10 := rfl
    rw [f_X8_findOdds_L18, if_neg (nI_ge (by omega) (by omega)), e, lN_mul, ← Nat.pow_succ, nI_1]
    exact ih (i + 1) n (by omega) (by omega)
theorem X_pow_L {N : Nat} (hN : N ≤ 8) : ∀ (d i : Nat) (n : Nat), i + d = N → d < n → f_X2_fractionOf_L27 (nI N) n (lN (10 ^ i)) (nI i) = some (lN (10 ^ N)) := by
  intro d
  induction d with
  | zero =>
    intro i n hi hn
    obtain ⟨n, rfl⟩ : ∃ m, n = m + 1 := ⟨n - 1, by omega⟩
    have : i = N := by omega
    rw [f_X2_fractionOf_L27, if_pos (nI_le (by omega) (by omega)), this]
  | succ d ih =>
    intro i n hi hn
    obtain ⟨n, rfl⟩ : ∃ m, n = m + 1 := ⟨n - 1, by omega⟩
    have e : (10 : Int64) = lN 10 := rfl
    rw [f_X2_fractionOf_L27, if_neg (nI_ge (by omega) (by omega)), e, lN_mul, ← Nat.pow_succ, nI_1]
    exact ih (i + 1) n (by omega) (by omega)
theorem wS_nat {w : Nat} (hw : w ≤ 10) (hP : P ≤ 5) (hf : ∀ De, DeOK De → ∃ c, c ≤ 2475 ∧ wf De = lN c) : ∀ (n : Nat) (Mo De : Nat → Int32), DeOK De → DG De → ∃ t, t ≤ 10 ^ n * 2475 ∧ wS P Na Wa Dr (nI w) wf n Mo De = lN t := by
  intro n
  induction n with
  | zero =>
    intro Mo De h1 h2
    obtain ⟨c, hc, e⟩ := hf De h1
    exact ⟨c, by omega, e⟩
  | succ n ih =>
    intro Mo De h1 h2
    obtain ⟨g1, g2⟩ := dDe_ok (Na := Na) (Wa := Wa) (Mo := Mo) (dry := 9) hP h1 h2
    obtain ⟨g3, g4⟩ := dDe_ok (Na := Na) (Wa := Wa) (Mo := Mo) (dry := Dr) hP h1 h2
    obtain ⟨a, ha, ea⟩ := ih (dMo P Na Wa 9 Mo De) _ g1 g2
    obtain ⟨b, hb, eb⟩ := ih (dMo P Na Wa Dr Mo De) _ g3 g4
    refine ⟨w * a + (10 - w) * b, ?_, ?_⟩
    · have h3 : w * a ≤ w * (10 ^ n * 2475) := Nat.mul_le_mul_left w ha
      have h4 : (10 - w) * b ≤ (10 - w) * (10 ^ n * 2475) := Nat.mul_le_mul_left _ hb
      have h5 : w * (10 ^ n * 2475) + (10 - w) * (10 ^ n * 2475) = 10 * (10 ^ n * 2475) := by
        rw [← Nat.add_mul]
        congr 1; omega
      have h6 : 10 ^ (n + 1) * 2475 = 10 * (10 ^ n * 2475) := by rw [Nat.pow_succ, Nat.mul_comm (10 ^ n) 10, Nat.mul_assoc]
      omega
    · rw [wS, ea, eb, w_v hw, nI_l (by omega), nI_l (by omega), lN_mul, lN_mul, lN_add]
/-! the common divisor -/
theorem half_mod {b r : Nat} (h0 : 0 < r) (h1 : r < b) : 2 * (b % r) < b := by
  have e := Nat.div_add_mod b r
  have m := Nat.mod_lt b h0
  have q : 1 ≤ b / r := Nat.div_pos (Nat.le_of_lt h1) h0
  have : r * 1 ≤ r * (b / r) := Nat.mul_le_mul_left r q
  omega
theorem gcd_z {a n n2 : Nat} (i : Nat) (hi : i < 100) : f_X2_commonDivisor_L9 (n + 1) (lN a) (lN 0) (nI i) = some (lN a) ∧ f_X8_common_L6 (n2 + 1) (lN a) (lN 0) = some (lN a) := by
  rw [f_X2_commonDivisor_L9, f_X8_common_L6]
  have e : lg_cmp (lN 0) 0 = 0 := by decide
  rw [if_neg (show ¬ (100 : Int32) ≤ nI i from nI_ge (b := 100) (by omega) (by omega)), if_pos e, if_pos e]
  exact ⟨rfl, rfl⟩
theorem gcd_s {a b n n2 : Nat} (i : Nat) (hi : i < 100) (ha : a < 2 ^ 63) (hb : b < 2 ^ 63) (h0 : 0 < b) : f_X2_commonDivisor_L9 (n + 1) (lN a) (lN b) (nI i) = f_X2_commonDivisor_L9 n (lN b) (lN (a % b)) (nI (i + 1)) ∧ f_X8_common_L6 (n2 + 1) (lN a) (lN b) = f_X8_common_L6 n2 (lN b) (lN (a % b)) := by
  rw [f_X2_commonDivisor_L9, f_X8_common_L6]
  have e0 : (0 : Int64) = lN 0 := rfl
  have e : ¬ lN b = 0 := by
    rw [e0]
    intro z
    have := (pk_lEQ hb (by omega)).mp z
    omega
  have e1 : ¬ lg_cmp (lN b) 0 = 0 := fun z => e ((cmp_eq _ _).mp z)
  have e2 : nzl (lN b) = some () := by unfold nzl; rw [if_neg e]
  rw [if_neg (show ¬ (100 : Int32) ≤ nI i from nI_ge (b := 100) (by omega) (by omega)), if_neg e1, if_neg e1, e2, b1_some, b1_some, pk_lRem ha h0 hb, nI_1]
  exact ⟨rfl, rfl⟩
theorem gcd_both : ∀ (k a b i n n2 : Nat), b < 2 ^ k → a < 2 ^ 63 → k ≤ 62 → 0 < a → i + 2 * k < 100 → 2 * k < n → 2 * k < n2 → ∃ g, 0 < g ∧ g < 2 ^ 63 ∧ f_X2_commonDivisor_L9 n (lN a) (lN b) (nI i) = some (lN g) ∧ f_X8_common_L6 n2 (lN a) (lN b) = some (lN g) := by
  intro k
  induction k with
  | zero =>
    intro a b i n n2 hb ha hk h0 hi hn hn2
    have : b = 0 := by omega
    subst this
    obtain ⟨n, rfl⟩ : ∃ m, n = m + 1 := ⟨n - 1, by omega⟩
    obtain ⟨n2, rfl⟩ : ∃ m, n2 = m + 1 := ⟨n2 - 1, by omega⟩
    obtain ⟨x, y⟩ := gcd_z (a := a) (n := n) (n2 := n2) i (by omega)
    exact ⟨a, h0, ha, x, y⟩
  | succ k ih =>
    intro a b i n n2 hb ha hk h0 hi hn hn2
    have hk63 : 2 ^ (k + 1) ≤ 2 ^ 62 := Nat.pow_le_pow_right (by omega) (by omega)
    have hks : 2 ^ (k + 1) = 2 * 2 ^ k := by rw [Nat.pow_succ, Nat.mul_comm]
    obtain ⟨n, rfl⟩ : ∃ m, n = m + 3 := ⟨n - 3, by omega⟩
    obtain ⟨n2, rfl⟩ : ∃ m, n2 = m + 3 := ⟨n2 - 3, by omega⟩
    by_cases cb : b = 0
    · subst cb
      obtain ⟨x, y⟩ := gcd_z (a := a) (n := n + 2) (n2 := n2 + 2) i (by omega)
      exact ⟨a, h0, ha, x, y⟩
    · obtain ⟨x, y⟩ := gcd_s (a := a) (b := b) (n := n + 2) (n2 := n2 + 2) i (by omega) ha (by omega) (by omega)
      rw [x, y]
      have hr := Nat.mod_lt a (show 0 < b by omega)
      by_cases cr : a % b = 0
      · rw [cr]
        obtain ⟨x, y⟩ := gcd_z (a := b) (n := n + 1) (n2 := n2 + 1) (i + 1) (by omega)
        exact ⟨b, by omega, by omega, x, y⟩
      · obtain ⟨x, y⟩ := gcd_s (a := b) (b := a % b) (n := n + 1) (n2 := n2 + 1) (i + 1) (by omega) (by omega) (by omega) (by omega)
        rw [x, y]
        have hh := half_mod (b := b) (r := a % b) (by omega) hr
        exact ih (a % b) (b % (a % b)) (i + 2) (n + 1) (n2 + 1) (by omega) (by omega) (by omega) (by omega) (by omega) (by omega) (by omega)
/-- the fraction, on both sides, from equal sums -/
theorem frac_eq {N : Nat} (hN : N ≤ 8) {top : Nat} (ht : top ≤ 10 ^ N * 2475) (w : Int32) : ∃ r, (b1 (f_X2_commonDivisor (lN (10 ^ N)) (lN top)) fun r_13 => b1 (some (if r_13 < 1 then 1 else r_13)) fun z_14 => if w = 0 then b1 (nzl z_14) fun (_ : Unit) => some (lN top / z_14) else b1 (nzl z_14) fun (_ : Unit) => some (lN (10 ^ N) / z_14)) = some r ∧ f_X8_told (lN top) (lN (10 ^ N)) w = some r := by
  have h10 : 10 ^ N ≤ 10 ^ 8 := Nat.pow_le_pow_right (by omega) hN
  have h1 : 1 ≤ 10 ^ N := Nat.one_le_pow _ _ (by omega)
  have ht2 : top < 2 ^ 40 := by
    have : 10 ^ N * 2475 ≤ 10 ^ 8 * 2475 := Nat.mul_le_mul_right 2475 h10
    omega
  obtain ⟨g, g0, g1, e1, e2⟩ := gcd_both 40 (10 ^ N) top 0 400 400 ht2 (by omega) (by omega) (by omega) (by omega) (by omega) (by omega)
  rw [nI_0] at e1
  unfold f_X2_commonDivisor f_X8_told f_X8_common
  rw [e1, b1_some, b1_some, b1_some, e2, b1_some, b1_some]
  have ge1 : ¬ lN g < 1 := by
    have e : (1 : Int64) = lN 1 := rfl
    rw [e]
    intro z
    have := (pk_lLT g1 (by omega)).mp z
    omega
  have e0 : (0 : Int64) = lN 0 := rfl
  have en : ¬ lN g = 0 := by
    rw [e0]
    intro z
    have := (pk_lEQ g1 (by omega)).mp z
    omega
  have e2 : nzl (lN g) = some () := by unfold nzl; rw [if_neg en]
  rw [if_neg ge1, e2, b1_some, b1_some]
  by_cases c : w = 0
  · rw [if_pos c]; exact ⟨_, rfl, rfl⟩
  · rw [if_neg c]; exact ⟨_, rfl, rfl⟩
theorem X_areOdds (x y z : Int32) : f_X7_areOdds x y z = some (if tb x 0 10 = 0 then 0 else if tb y 0 8 = 0 then 0 else if tb z 0 1 = 0 then 0 else 1) := by
  unfold f_X7_areOdds
  rw [X_within x 0 10 rfl rfl, X_within y 0 8 rfl rfl, X_within z 0 1 rfl rfl]
  simp only [b1_some]
  rcases tb_cases x 0 10 with ⟨t, -⟩ | ⟨t, -⟩ <;> rcases tb_cases y 0 8 with ⟨s, -⟩ | ⟨s, -⟩ <;> rcases tb_cases z 0 1 with ⟨u, -⟩ | ⟨u, -⟩ <;> rw [t, s, u] <;> rfl
theorem X_frac (hl : LI P st Da Dr Na Mo Wa De) {w N : Nat} (hw : w ≤ 10) (hN : N ≤ 8) {q : Int32} (hwf : ∀ De, f_X2_worth (nI P) De q = some (wf De)) {top : Nat} (et : wS P Na Wa Dr (nI w) wf N Mo De = lN top) (z : Int32) : f_X2_fractionOf (nI P) Da Dr Na Mo Wa De (nI w) q (nI N) z = b1 (f_X2_commonDivisor (lN (10 ^ N)) (lN top)) fun r_13 => b1 (some (if r_13 < 1 then 1 else r_13)) fun z_14 => if z = 0 then b1 (nzl z_14) fun (_ : Unit) => some (lN top / z_14) else b1 (nzl z_14) fun (_ : Unit) => some (lN (10 ^ N) / z_14) := by
  have e := X_w0 (Dr := Dr) (Na := Na) (Wa := Wa) hwf hl.1 hw (N := N) (by omega) hN Da Mo De
  have e2 := X_pow_L hN N 0 400 (by omega) (by omega)
  rw [nI_0] at e2
  have e2' : f_X2_fractionOf_L27 (nI N) 400 1 0 = some (lN (10 ^ N)) := e2
  rw [Nat.sub_zero, et] at e
  unfold f_X2_fractionOf f_X1_become
  rw [b7_some, e, b1_some, e2', b1_some]
theorem e_luck (hl : LI P st Da Dr Na Mo Wa De) (now : Nat → Int32) (paid : Int32) (a1 a2 a3 : Int64) (x y z w : Int32) : ∃ r now' paid' c1 c2 c3, f_X7_luck (nI P) Da Dr Na Mo Wa De x y z w = some r ∧ f_X8_luck st now (nI P) paid a1 a2 a3 x y z w = some (r, now', paid', c1, c2, c3) := by
  have hP := hl.1
  unfold f_X7_luck f_X8_luck
  rw [X_has hP, M_isOne hP, X_areOdds, M_in x 0 10 rfl rfl, M_in z 0 8 rfl rfl, M_isPart]
  simp only [b1_some]
  rcases one_cases hP y with c | ⟨p, hp, rfl, c⟩
  · rw [c]
    rcases tb_cases x 0 10 with ⟨t, -⟩ | ⟨t, -⟩ <;> rw [t] <;> exact ⟨_, _, _, _, _, _, rfl, rfl⟩
  rw [c]
  rcases tb_cases x 0 10 with ⟨t, -⟩ | ⟨t, -⟩
  · rcases tb_cases z 0 8 with ⟨s, -⟩ | ⟨s, -⟩
    · rcases tb_cases w 0 1 with ⟨u, -⟩ | ⟨u, -⟩
      · obtain ⟨v, -, hv, rfl⟩ := tb_nI (lo := 0) (hi := 10) t
        obtain ⟨N, -, hN, rfl⟩ := tb_nI (lo := 0) (hi := 8) s
        rw [t, s, u]
        simp only [if_neg n10]
        have hne : ¬ nI p = -1 := by
          intro e
          have := congrArg Int32.toInt e
          rw [nI_toInt (by omega)] at this
          have h0 : (-1 : Int32).toInt = -1 := rfl
          omega
        have hwf : ∀ De, f_X2_worth (nI P) De (nI p) = some (if owes De P p = 0 then (1 : Int64) else 0) := by
          intro De
          unfold f_X2_worth
          rw [if_neg hne, X_isRiding (by omega) hP, b1_some]
          by_cases c : owes De P p = 0
          · rw [if_pos c, if_pos c, if_neg n10]
          · rw [if_neg c, if_neg c, if_pos rfl]
        obtain ⟨top, ht, et⟩ := wS_nat (Na := Na) (Wa := Wa) (Dr := Dr) (wf := fun De => if owes De P p = 0 then (1 : Int64) else 0) hv hP (fun De _ => by
          by_cases c : owes De P p = 0
          · exact ⟨1, by omega, by rw [if_pos c]; rfl⟩
          · exact ⟨0, by omega, by rw [if_neg c]; rfl⟩) N Mo De hl.2.2.2.1 hl.2.2.2.2
        obtain ⟨r, e1, e2⟩ := frac_eq hN ht w
        obtain ⟨n1, q1, e3⟩ := M_odds_L (v := nI v) (N := N) (p2 := nI p) hN hl (fun De => if owes De P p = 0 then (1 : Int64) else 0) (fun now De' Mo' Da' Dr' a hR => by
          rw [if_neg (nI_ne4 (by omega)), M_owesAll hR (by omega) hP, b1_some]
          by_cases c : owes De' P p = 0
          · rw [if_pos c, if_pos c, Int64.mul_one]
          · rw [if_neg c, if_neg c, Int64.mul_zero]) (2 ^ N) 0 now paid 400 (by omega) (by have : 2 ^ N ≤ 2 ^ 8 := Nat.pow_le_pow_right (by omega) hN; omega)
        have e4 := M_pow_L hN N 0 400 (by omega) (by omega)
        rw [nI_0] at e3 e4
        have e3' : f_X8_findOdds_L45 st (nI P) (nI v) (nI p) (nI N) 400 0 now paid 0 0 = _ := e3
        have e4' : f_X8_findOdds_L18 (nI N) 400 0 1 = some (lN (10 ^ N)) := e4
        unfold f_X8_findOdds
        rw [e4', b1_some, e3', b4_some, b5_some, sum_W, et, e2, b1_some, X_frac hl hv hN hwf et w, e1, b1_some]
        exact ⟨_, _, _, _, _, _, rfl, rfl⟩
      · rw [t, s, u]; exact ⟨_, _, _, _, _, _, rfl, rfl⟩
    · rw [t, s]; exact ⟨_, _, _, _, _, _, rfl, rfl⟩
  · rw [t]; exact ⟨_, _, _, _, _, _, rfl, rfl⟩
theorem e_mean (hl : LI P st Da Dr Na Mo Wa De) (now : Nat → Int32) (paid : Int32) (a1 a2 a3 : Int64) (x z w : Int32) : ∃ r now' paid' c1 c2 c3, f_X7_mean (nI P) Da Dr Na Mo Wa De x z w = some r ∧ f_X8_mean st now (nI P) paid a1 a2 a3 x z w = some (r, now', paid', c1, c2, c3) := by
  have hP := hl.1
  unfold f_X7_mean f_X8_mean
  rw [X_areOdds, M_in x 0 10 rfl rfl, M_in z 0 8 rfl rfl, M_isPart]
  simp only [b1_some]
  rcases tb_cases x 0 10 with ⟨t, -⟩ | ⟨t, -⟩
  · rcases tb_cases z 0 8 with ⟨s, -⟩ | ⟨s, -⟩
    · rcases tb_cases w 0 1 with ⟨u, -⟩ | ⟨u, -⟩
      · obtain ⟨v, -, hv, rfl⟩ := tb_nI (lo := 0) (hi := 10) t
        obtain ⟨N, -, hN, rfl⟩ := tb_nI (lo := 0) (hi := 8) s
        rw [t, s, u]
        simp only [if_neg n10]
        have hwf : ∀ De, f_X2_worth (nI P) De (-1) = some ((allO De P).toInt64) := by
          intro De
          unfold f_X2_worth
          rw [if_pos rfl, X_owedInAll hP, b1_some]
        obtain ⟨top, ht, et⟩ := wS_nat (Na := Na) (Wa := Wa) (Dr := Dr) (wf := fun De => (allO De P).toInt64) hv hP (fun De h => by
          obtain ⟨c, hc, e⟩ := allO_nI h hP
          exact ⟨c, hc, by show (allO De P).toInt64 = lN c; rw [e, nI_l (by omega)]⟩) N Mo De hl.2.2.2.1 hl.2.2.2.2
        obtain ⟨r, e1, e2⟩ := frac_eq hN ht w
        obtain ⟨n1, q1, e3⟩ := M_odds_L (v := nI v) (N := N) (p2 := -4) hN hl (fun De => 0) (fun now De' Mo' Da' Dr' a hR => by
          rw [if_pos rfl, Int64.mul_zero]) (2 ^ N) 0 now paid 400 (by omega) (by have : 2 ^ N ≤ 2 ^ 8 := Nat.pow_le_pow_right (by omega) hN; omega)
        have e4 := M_pow_L hN N 0 400 (by omega) (by omega)
        rw [nI_0] at e3 e4
        have e3' : f_X8_findOdds_L45 st (nI P) (nI v) (-4) (nI N) 400 0 now paid 0 0 = _ := e3
        have e4' : f_X8_findOdds_L18 (nI N) 400 0 1 = some (lN (10 ^ N)) := e4
        unfold f_X8_findOdds
        rw [e4', b1_some, e3', b4_some, b5_some, sum_W, sum_W, et, e2, b1_some, X_frac hl hv hN hwf et w, e1, b1_some]
        exact ⟨_, _, _, _, _, _, rfl, rfl⟩
      · rw [t, s, u]; exact ⟨_, _, _, _, _, _, rfl, rfl⟩
    · rw [t, s]; exact ⟨_, _, _, _, _, _, rfl, rfl⟩
  · rw [t]; exact ⟨_, _, _, _, _, _, rfl, rfl⟩
end E14
