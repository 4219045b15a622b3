/-! ===== L2: the line of a debt ===== -/
section E20
variable {By tape : Nat → Int32} {n : Nat}
variable {p : Nat} {draft : Nat → Int32} {told hi Dr Ho : Int32} {Na Mo Wa De : Nat → Int32}
theorem HI_up {a b : Nat} (ha : a < 5) (hb : b < 5) (h : HI Ho hi) : HI (if Ho < (if nI a < nI b then nI b else nI a) then (if nI a < nI b then nI b else nI a) else Ho) (if nI b ≤ (if nI a ≤ hi then hi else nI a) then (if nI a ≤ hi then hi else nI a) else nI b) := by
  have e1 : (if nI a < nI b then nI b else nI a) = nI (if a < b then b else a) := by
    by_cases c : a < b
    · rw [if_pos (nI_lt c (by omega)), if_pos c]
    · rw [if_neg (nI_nlt (by omega) (by omega)), if_neg c]
  rw [e1]
  rcases h with ⟨rfl, rfl⟩ | ⟨x, hx, rfl, rfl⟩
  · right
    have n1 : ∀ m, m < 5 → (-1 : Int32) < nI m := by
      intro m hm
      refine Int32.lt_iff_toInt_lt.mpr ?_
      rw [nI_toInt (by omega)]
      have : (-1 : Int32).toInt = -1 := rfl
      omega
    have n4 : ¬ nI a ≤ -4 := by
      intro z
      have := Int32.le_iff_toInt_le.mp z
      rw [nI_toInt (by omega)] at this
      have e : (-4 : Int32).toInt = -4 := rfl
      omega
    rw [if_pos (n1 _ (by split <;> omega)), if_neg n4]
    refine ⟨if a < b then b else a, by split <;> omega, rfl, ?_⟩
    by_cases c : b ≤ a
    · rw [if_pos (nI_le c (by omega)), if_neg (by omega)]
    · rw [if_neg (nI_ge (by omega) (by omega)), if_pos (by omega)]
  · right
    have e2 : (if nI a ≤ nI x then nI x else nI a) = nI (if a ≤ x then x else a) := by
      by_cases c : a ≤ x
      · rw [if_pos (nI_le c (by omega)), if_pos c]
      · rw [if_neg (nI_ge (by omega) (by omega)), if_neg c]
    rw [e2]
    refine ⟨if b ≤ (if a ≤ x then x else a) then (if a ≤ x then x else a) else b, by split <;> split <;> omega, ?_, ?_⟩
    · by_cases c : x < (if a < b then b else a)
      · rw [if_pos (nI_lt c (by split <;> omega))]
        congr 1
        split at c <;> (repeat' split) <;> omega
      · rw [if_neg (nI_nlt (by omega) (by omega))]
        congr 1
        split at c <;> (repeat' split) <;> omega
    · by_cases c : b ≤ (if a ≤ x then x else a)
      · rw [if_pos (nI_le c (by split <;> omega)), if_pos c]
      · rw [if_neg (nI_ge (by omega) (by omega)), if_neg c]
theorem owes_both (hn : n ≤ 160) (h : ∀ i, i < n → tape i = By i ∧ ∃ c, c ≤ 127 ∧ By i = nI c) {e0 : Nat} (he : e0 ≤ n) (hD : DR p draft told hi Dr Na Mo Wa De Ho) (bg s v w z : Int32) :
    (∃ c a, 1 ≤ c ∧ c ≤ 6 ∧ (∀ Ff Fp va, ∃ j1 j2 j3 j4 j5 j6, f_X3_takeOwes By (nI n) Ff Fp (nI e0) va Ho De = some (0, nI c, nI a, j1, j2, j3, j4, j5, j6)) ∧ ∃ d q t y g1 g2 g3 g4, mL tape (nI n) (nI e0) bg s v w draft (nI p) told hi z 4 = some (d, q, z, t, y, g1, g2, g3, g4, nI c, nI a)) ∨
    (∃ e draft' told' hi' Ho' De', e0 < e ∧ e ≤ n ∧ (∀ Ff Fp va, ∃ s1 s2 v', f_X3_takeOwes By (nI n) Ff Fp (nI e0) va Ho De = some (1, Ff, Fp, nI e, s1, s2, v', Ho', De')) ∧ (∃ b v', mL tape (nI n) (nI e0) bg s v w draft (nI p) told hi z 4 = b6 (f_X8_takes tape (nI n) (nI e) b 3 v' 0 w) fun g1 g2 g3 g4 g5 g6 => some (draft', nI p, z, told', hi', g1, g2, g3, g4, g5, g6)) ∧ DR p draft' told' hi' Dr Na Mo Wa De' Ho') := by
  have hwD : ∀ (a b : Nat) f v, a < 5 → b < 5 → wr f 61 ((15 + 5 * nI a) + nI b) v = some (upd f (15 + (5 * a + b)) v) := by
    intro a b f v ha hb
    rw [ix15, wr_nI (by omega) (by omega), Nat.add_assoc]
  have hw00 : ∀ f v, wr f 61 ((15 + 5 * 0) + 0) v = some (upd f 15 v) := fun f v => hwD 0 0 f v (by omega) (by omega)
  have hwa0 : ∀ (a : Nat) f v, a < 5 → wr f 61 ((15 + 5 * nI a) + 0) v = some (upd f (15 + (5 * a + 0)) v) := fun a f v ha => hwD a 0 f v ha (by omega)
  unfold mL f_X8_readLineOf f_X8_readDebt f_X8_readNumber f_X3_takeOwes f_X3_fail
  have s1 := tS_b (By := By) he
  have q1 := tE_b (By := By) s1.2
  rcases num_both (By := By) hn he (lo := 0) (hi := 4) (by omega) (by omega) with ⟨hb, hx⟩ | ⟨hb, c, hc, hx, hl⟩ | ⟨hb, h2, v1, -, hv1, ev1, hx, hl⟩
  · left
    obtain ⟨a, b, c, d, ht⟩ := (M_takes hn h he bg s v w).1 hb
    refine ⟨1, tS By n e0, by omega, by omega, fun Ff Fp va => ?_, ?_⟩
    · obtain ⟨j1, j2, j3, j4, hj⟩ := hx Ff Fp va
      have hj' : f_X3_takeNumber By (nI n) Ff Fp (nI e0) va 0 4 = _ := hj
      rw [hj', b7_some, if_pos rfl]
      exact ⟨_, _, _, _, _, _, rfl⟩
    · rw [ht, b6_some, if_neg (by decide)]
      exact ⟨_, _, _, _, _, _, _, _, rfl⟩
  · left
    have ht := (M_takes hn h he bg s v w).2 hb
    obtain ⟨hc1, hc0⟩ := nIc (c := c) (by omega) (by omega)
    refine ⟨c, tS By n e0, by omega, by omega, fun Ff Fp va => ?_, ?_⟩
    · obtain ⟨j1, j2, j3, j4, hj⟩ := hx Ff Fp va
      have hj' : f_X3_takeNumber By (nI n) Ff Fp (nI e0) va 0 4 = _ := hj
      rw [hj', b7_some, if_pos rfl]
      exact ⟨_, _, _, _, _, _, rfl⟩
    · have hl'' : f_X8_looked (nI (tS By n e0)) (nI (so By n (tS By n e0))) (if so By n (tS By n e0) = 2 then tV By n (tS By n e0) else v) 0 w 0 4 = _ := hl v w
      rw [ht, b6_some, if_pos (by decide), if_pos rfl, hl'', b3_some, takes_f hc1, b6_some, b7_some, looked_f hc0, b3_some, iteS, b1_some, needs_f hc0, b2_some, iteS, b1_some, needs_f hc0, b2_some, iteS, b1_some, iteS, b1_some, takes_f hc1, b6_some, looked_f hc0, b3_some, takes_f hc1, b6_some, b7_some, hw00, b1_some, b9_some, b10_some, if_neg hc0, b2_some, takes_f hc1, b6_some]
      exact ⟨_, _, _, _, _, _, _, _, rfl⟩
  · have ht := (M_takes hn h he bg s v w).2 hb
    rw [h2, if_pos rfl, ev1] at ht
    have ht' : f_X8_takes tape (nI n) (nI e0) bg s v 0 w = some (nI (tE By n (tS By n e0)), nI (tS By n e0), 2, nI v1, 0, w) := ht
    have hl' : f_X8_looked (nI (tS By n e0)) 2 (nI v1) 0 w 0 4 = some (nI v1, 0, w) := hl w
    have hx' : ∀ Ff Fp va, f_X3_takeNumber By (nI n) Ff Fp (nI e0) va 0 4 = some (1, Ff, Fp, nI (tE By n (tS By n e0)), 2, nI (tS By n e0), nI v1) := hx
    have p1 := q1.2.2 (by omega) (by omega)
    generalize hE1 : tE By n (tS By n e0) = e1 at *
    have he1 : e1 ≤ n := q1.2.1
    have s2 := tS_b (By := By) he1
    have q2 := tE_b (By := By) s2.2
    rw [ht', b6_some, if_pos (by decide), if_pos rfl, hl', b3_some]
    rcases num_both (By := By) hn he1 (lo := 0) (hi := 4) (by omega) (by omega) with ⟨hb, hy⟩ | ⟨hb, c, hc, hy, hm⟩ | ⟨hb, h3, v2, -, hv2, ev2, hy, hm⟩
    · left
      obtain ⟨a, b, c, d, hu⟩ := (M_takes hn h he1 (nI (tS By n e0)) 2 (nI v1) w).1 hb
      refine ⟨1, tS By n e1, by omega, by omega, fun Ff Fp va => ?_, ?_⟩
      · obtain ⟨j1, j2, j3, j4, hj⟩ := hy Ff Fp (nI v1)
        have hj' : f_X3_takeNumber By (nI n) Ff Fp (nI e1) (nI v1) 0 4 = _ := hj
        rw [hx', b7_some, if_neg n10, hj', b7_some, if_pos rfl]
        exact ⟨_, _, _, _, _, _, rfl⟩
      · have d1 : ¬ (1 : Int32) ≤ 0 := by decide
        rw [hu, b6_some, b7_some, looked_f n10, b3_some, iteS, b1_some, needs_f n10, b2_some, iteS, b1_some, needs_f n10, b2_some, iteS, b1_some, iteS, b1_some, takes_f d1, b6_some, looked_f n10, b3_some, takes_f d1, b6_some, b7_some, hwa0 _ _ _ (by omega), b1_some, b9_some, b10_some, if_neg n10, b2_some, takes_f d1, b6_some]
        exact ⟨_, _, _, _, _, _, _, _, rfl⟩
    · left
      have hu := (M_takes hn h he1 (nI (tS By n e0)) 2 (nI v1) w).2 hb
      obtain ⟨hc1, hc0⟩ := nIc (c := c) (by omega) (by omega)
      have hm' : f_X8_looked (nI (tS By n e1)) (nI (so By n (tS By n e1))) (if so By n (tS By n e1) = 2 then tV By n (tS By n e1) else nI v1) 0 w 0 4 = _ := hm (nI v1) w
      refine ⟨c, tS By n e1, by omega, by omega, fun Ff Fp va => ?_, ?_⟩
      · obtain ⟨j1, j2, j3, j4, hj⟩ := hy Ff Fp (nI v1)
        have hj' : f_X3_takeNumber By (nI n) Ff Fp (nI e1) (nI v1) 0 4 = _ := hj
        rw [hx', b7_some, if_neg n10, hj', b7_some, if_pos rfl]
        exact ⟨_, _, _, _, _, _, rfl⟩
      · rw [hu, b6_some, b7_some, hm', b3_some, iteS, b1_some, needs_f hc0, b2_some, iteS, b1_some, needs_f hc0, b2_some, iteS, b1_some, iteS, b1_some, takes_f hc1, b6_some, looked_f hc0, b3_some, takes_f hc1, b6_some, b7_some, hwa0 _ _ _ (by omega), b1_some, b9_some, b10_some, if_neg hc0, b2_some, takes_f hc1, b6_some]
        exact ⟨_, _, _, _, _, _, _, _, rfl⟩
    · have hu := (M_takes hn h he1 (nI (tS By n e0)) 2 (nI v1) w).2 hb
      rw [h3, if_pos rfl, ev2] at hu
      have hu' : f_X8_takes tape (nI n) (nI e1) (nI (tS By n e0)) 2 (nI v1) 0 w = some (nI (tE By n (tS By n e1)), nI (tS By n e1), 2, nI v2, 0, w) := hu
      have hm' : f_X8_looked (nI (tS By n e1)) 2 (nI v2) 0 w 0 4 = some (nI v2, 0, w) := hm w
      have hy' : ∀ Ff Fp va, f_X3_takeNumber By (nI n) Ff Fp (nI e1) va 0 4 = some (1, Ff, Fp, nI (tE By n (tS By n e1)), 2, nI (tS By n e1), nI v2) := hy
      have p2 := q2.2.2 (by omega) (by omega)
      generalize hE2 : tE By n (tS By n e1) = e2 at *
      have he2 : e2 ≤ n := q2.2.1
      have s3 := tS_b (By := By) he2
      have q3 := tE_b (By := By) s3.2
      rw [hu', b6_some, b7_some, hm', b3_some]
      by_cases cq : v1 = v2
      · left
        subst cq
        have d3 : ¬ (3 : Int32) ≤ 0 := by decide
        have d30 : ¬ (3 : Int32) = 0 := by decide
        refine ⟨3, tS By n e1, by omega, by omega, fun Ff Fp va => ?_, ?_⟩
        · rw [hx', b7_some, if_neg n10, hy', b7_some, if_neg n10, if_pos rfl, b3_some]
          exact ⟨_, _, _, _, _, _, rfl⟩
        · rw [if_pos rfl, b1_some, needs_no, b2_some, iteS, b1_some, needs_f d30, b2_some, iteS, b1_some, iteS, b1_some, takes_f d3, b6_some, looked_f d30, b3_some, takes_f d3, b6_some, b7_some, hwD _ _ _ _ (by omega) (by omega), b1_some, b9_some, b10_some, if_neg d30, b2_some, takes_f d3, b6_some]
          exact ⟨_, _, _, _, _, _, _, _, rfl⟩
      have cq1 : ¬ nI v1 = nI v2 := fun z => cq ((nI_eq (by omega) (by omega)).mp z)
      have cq2 : ¬ nI v2 = nI v1 := fun z => cq1 z.symm
      rw [if_neg cq1, b1_some, needs_ok, b2_some]
      obtain ⟨dd, hdd, edd⟩ := hD.2.2.2.2.1 (5 * v1 + v2) (by omega)
      by_cases cz : De (5 * v1 + v2) = 0
      · have tg := (TO_get hD.2.2.2.2.2.2.1 (p := v1) (q := v2) (by omega) (by omega)).mpr cz
        rw [if_pos tg, b1_some, needs_ok, b2_some, iteS, b1_some, iteS, b1_some]
        rcases num_both (By := By) hn he2 (lo := 1) (hi := 99) (by omega) (by omega) with ⟨hb, hz⟩ | ⟨hb, c, hc, hz, hk⟩ | ⟨hb, h4, v3, hv3a, hv3, ev3, hz, hk⟩
        · left
          obtain ⟨a, b, c, d, hr⟩ := (M_takes hn h he2 (nI (tS By n e1)) 2 (nI v2) w).1 hb
          refine ⟨1, tS By n e2, by omega, by omega, fun Ff Fp va => ?_, ?_⟩
          · obtain ⟨j1, j2, j3, j4, hj⟩ := hz Ff Fp (nI v2)
            have hj' : f_X3_takeNumber By (nI n) Ff Fp (nI e2) (nI v2) 1 99 = _ := hj
            rw [hx', b7_some, if_neg n10, hy', b7_some, if_neg n10, if_neg cq2, X_debt (by omega) (by omega), b1_some, cz, if_pos (by decide), hj', b7_some, if_pos rfl]
            exact ⟨_, _, _, _, _, _, rfl⟩
          · have d1 : ¬ (1 : Int32) ≤ 0 := by decide
            rw [hr, b6_some, looked_f n10, b3_some, takes_f d1, b6_some, b7_some, hwD _ _ _ _ (by omega) (by omega), b1_some, b9_some, b10_some, if_neg n10, b2_some, takes_f d1, b6_some]
            exact ⟨_, _, _, _, _, _, _, _, rfl⟩
        · left
          have hr := (M_takes hn h he2 (nI (tS By n e1)) 2 (nI v2) w).2 hb
          obtain ⟨hc1, hc0⟩ := nIc (c := c) (by omega) (by omega)
          have hk' : f_X8_looked (nI (tS By n e2)) (nI (so By n (tS By n e2))) (if so By n (tS By n e2) = 2 then tV By n (tS By n e2) else nI v2) 0 w 1 99 = _ := hk (nI v2) w
          refine ⟨c, tS By n e2, by omega, by omega, fun Ff Fp va => ?_, ?_⟩
          · obtain ⟨j1, j2, j3, j4, hj⟩ := hz Ff Fp (nI v2)
            have hj' : f_X3_takeNumber By (nI n) Ff Fp (nI e2) (nI v2) 1 99 = _ := hj
            rw [hx', b7_some, if_neg n10, hy', b7_some, if_neg n10, if_neg cq2, X_debt (by omega) (by omega), b1_some, cz, if_pos (by decide), hj', b7_some, if_pos rfl]
            exact ⟨_, _, _, _, _, _, rfl⟩
          · rw [hr, b6_some, hk', b3_some, takes_f hc1, b6_some, b7_some, hwD _ _ _ _ (by omega) (by omega), b1_some, b9_some, b10_some, if_neg hc0, b2_some, takes_f hc1, b6_some]
            exact ⟨_, _, _, _, _, _, _, _, rfl⟩
        · have hr := (M_takes hn h he2 (nI (tS By n e1)) 2 (nI v2) w).2 hb
          rw [h4, if_pos rfl, ev3] at hr
          have hr' : f_X8_takes tape (nI n) (nI e2) (nI (tS By n e1)) 2 (nI v2) 0 w = some (nI (tE By n (tS By n e2)), nI (tS By n e2), 2, nI v3, 0, w) := hr
          have hk' : f_X8_looked (nI (tS By n e2)) 2 (nI v3) 0 w 1 99 = some (nI v3, 0, w) := hk w
          have hz' : ∀ Ff Fp va, f_X3_takeNumber By (nI n) Ff Fp (nI e2) va 1 99 = some (1, Ff, Fp, nI (tE By n (tS By n e2)), 2, nI (tS By n e2), nI v3) := hz
          have p3 := q3.2.2 (by omega) (by omega)
          generalize hE3 : tE By n (tS By n e2) = e3 at *
          have he3 : e3 ≤ n := q3.2.1
          have s4 := tS_b (By := By) he3
          have q4 := tE_b (By := By) s4.2
          rw [hr', b6_some, hk', b3_some]
          rcases semi_both (By := By) hn he3 with ⟨hb, hf⟩ | ⟨hb, h5, hf⟩ | ⟨hb, h5, hf⟩
          · left
            obtain ⟨a, b, c, d, hg⟩ := (M_takes hn h he3 (nI (tS By n e2)) 2 (nI v3) w).1 hb
            refine ⟨1, tS By n e3, by omega, by omega, fun Ff Fp va => ?_, ?_⟩
            · obtain ⟨j1, j2, j3, hj⟩ := hf Ff Fp
              rw [hx', b7_some, if_neg n10, hy', b7_some, if_neg n10, if_neg cq2, X_debt (by omega) (by omega), b1_some, cz, if_pos (by decide), hz', b7_some, if_neg n10, X_setDebt (by omega) (by omega), b1_some, b1_some, b1_some, hj, b6_some]
              exact ⟨_, _, _, _, _, _, rfl⟩
            · have d1 : ¬ (1 : Int32) ≤ 0 := by decide
              rw [hg, b6_some, b7_some, hwD _ _ _ _ (by omega) (by omega), b1_some, b9_some, b10_some, if_neg n10, b2_some, takes_f d1, b6_some]
              exact ⟨_, _, _, _, _, _, _, _, rfl⟩
          · left
            have hg := (M_takes hn h he3 (nI (tS By n e2)) 2 (nI v3) w).2 hb
            have l4 := so_le (By := By) (n := n) (tS By n e3)
            refine ⟨2, tS By n e3, by omega, by omega, fun Ff Fp va => ?_, ?_⟩
            · obtain ⟨j1, j2, j3, hj⟩ := hf Ff Fp
              rw [hx', b7_some, if_neg n10, hy', b7_some, if_neg n10, if_neg cq2, X_debt (by omega) (by omega), b1_some, cz, if_pos (by decide), hz', b7_some, if_neg n10, X_setDebt (by omega) (by omega), b1_some, b1_some, b1_some, hj, b6_some]
              exact ⟨_, _, _, _, _, _, rfl⟩
            · rw [hg, b6_some, b7_some, hwD _ _ _ _ (by omega) (by omega), b1_some, b9_some, b10_some, if_pos rfl, if_neg (show ¬ nI (so By n (tS By n e3)) = 3 from so_ne (j := 3) l4 (by omega) h5), b1_some, needs_no, b2_some, b2_some, takes_f (by decide), b6_some]
              exact ⟨_, _, _, _, _, _, _, _, rfl⟩
          · right
            have hg := (M_takes hn h he3 (nI (tS By n e2)) 2 (nI v3) w).2 hb
            rw [h5, if_neg (by omega)] at hg
            have hg' : f_X8_takes tape (nI n) (nI e3) (nI (tS By n e2)) 2 (nI v3) 0 w = some (nI (tE By n (tS By n e3)), nI (tS By n e3), 3, nI v3, 0, w) := hg
            have p4 := q4.2.2 (by omega) (by omega)
            refine ⟨tE By n (tS By n e3), upd draft (15 + (5 * v1 + v2)) (nI v3), told ||| (1 <<< ((5 * nI v1 + nI v2) &&& 31)), (if nI v2 ≤ (if nI v1 ≤ hi then hi else nI v1) then (if nI v1 ≤ hi then hi else nI v1) else nI v2), (if Ho < (if nI v1 < nI v2 then nI v2 else nI v1) then (if nI v1 < nI v2 then nI v2 else nI v1) else Ho), upd De (5 * v1 + v2) (nI v3), by omega, q4.2.1, fun Ff Fp va => ?_, ?_, ?_⟩
            rotate_left
            · rw [hg', b6_some, b7_some, hwD _ _ _ _ (by omega) (by omega), b1_some, b9_some, b10_some, if_pos rfl, if_pos rfl, b1_some, needs_ok, b2_some, b2_some]
              exact ⟨_, _, rfl⟩
            · obtain ⟨d1, d2, d3, d4, d5, d6, d7, d8⟩ := hD
              exact ⟨d1, d2.debt (by omega) d1 _, by rw [upd_n (by omega)]; exact d3, d4, d5.upd hv3, d6.upd (by omega) (by omega) cq _, TO_set d7 (by omega) (by omega) (nI_ne0 (by omega) (by omega)), HI_up (a := v1) (b := v2) (by omega) (by omega) d8⟩
            · rw [hx', b7_some, if_neg n10, hy', b7_some, if_neg n10, if_neg cq2, X_debt (by omega) (by omega), b1_some, cz, if_pos (by decide), hz', b7_some, if_neg n10, X_setDebt (by omega) (by omega), b1_some, b1_some, b1_some, hf, b6_some]
              exact ⟨_, _, _, rfl⟩
      · left
        have tg : ¬ _ := fun y => cz ((TO_get hD.2.2.2.2.2.2.1 (p := v1) (q := v2) (by omega) (by omega)).mp y)
        have d4 : ¬ (4 : Int32) ≤ 0 := by decide
        have d40 : ¬ (4 : Int32) = 0 := by decide
        have hpos : ¬ De (5 * v1 + v2) ≤ 0 := by
          rw [edd] at cz ⊢
          have : dd ≠ 0 := fun y => by rw [y] at cz; exact cz rfl
          exact nI_nle (by omega) (by omega)
        refine ⟨4, tS By n e1, by omega, by omega, fun Ff Fp va => ?_, ?_⟩
        · rw [hx', b7_some, if_neg n10, hy', b7_some, if_neg n10, if_neg cq2, X_debt (by omega) (by omega), b1_some, if_neg hpos, b3_some]
          exact ⟨_, _, _, _, _, _, rfl⟩
        · rw [if_neg tg, b1_some, needs_no, b2_some, iteS, b1_some, iteS, b1_some, takes_f d4, b6_some, looked_f d40, b3_some, takes_f d4, b6_some, b7_some, hwD _ _ _ _ (by omega) (by omega), b1_some, b9_some, b10_some, if_neg d40, b2_some, takes_f d4, b6_some]
          exact ⟨_, _, _, _, _, _, _, _, rfl⟩
end E20
