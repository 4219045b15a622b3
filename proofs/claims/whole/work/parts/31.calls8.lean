/-! ===== L2: payments read from sheets ===== -/
section E11
variable {La Sz Ce : Nat → Int32}
theorem add64 (a b : Int64) (x y : Int) (ha : a.toInt = x) (hb : b.toInt = y) (h1 : -(2 ^ 40) ≤ x) (h2 : x ≤ 2 ^ 40) (h3 : -(2 ^ 40) ≤ y) (h4 : y ≤ 2 ^ 40) : (a + b).toInt = x + y := by
  rw [Int64.toInt_add, ha, hb, Int.bmod_eq_of_le (by omega) (by omega)]
theorem i32_lo (f : Int32) : -2147483648 ≤ f.toInt := by have := Int32.le_toInt f; omega
theorem i32_hi (f : Int32) : f.toInt < 2147483648 := by have := Int32.toInt_lt f; omega
theorem read_stop2 {k : Nat} {y f v : Int32} {r : Int32} (hr : r ≠ 0) (n c : Nat) : f_X8_read_L77 La Sz (nI k) y f v (n + 1) r (nI c) = some r := by
  rw [f_X8_read_L77]
  by_cases c1 : (3 : Int32) ≤ nI c
  · rw [if_pos c1]
  · rw [if_neg c1, if_neg hr]
theorem read_p (f : Int32) {i c : Nat} (hi : i < 13) (hc : c < 3) : ((f.toInt64 + (3 * nI i).toInt64) + (nI c).toInt64).toInt = f.toInt + 3 * i + c := by
  have e3 : (3 : Int32) = nI 3 := rfl
  have l := i32_lo f
  have u := i32_hi f
  have h1 := add64 f.toInt64 (3 * nI i).toInt64 f.toInt (3 * i) (Int32.toInt_toInt64 f) (by rw [e3, pk_mul]; rw [nI_l64 (by omega)]; omega) (by omega) (by omega) (by omega) (by omega)
  exact add64 _ _ _ _ h1 (nI_l64 (by omega)) (by omega) (by omega) (by omega) (by omega)
theorem read_step {k l n : Nat} (hk : k < 4) (hn : n ≤ 40) (hl : l ≤ 2) (hL : La k = nI l) (hS : Sz k = nI n) (f : Int32) {i : Nat} (hi : i < 13) (m c : Nat) (hc : c < 3) : f_X8_read_L77 La Sz (nI k) (nI l) f (nI i) (m + 1) 0 (nI c) = if f.toInt + 3 * i + c < 0 ∨ n ≤ f.toInt + 3 * i + c then f_X8_read_L77 La Sz (nI k) (nI l) f (nI i) m 2 (nI (c + 1)) else f_X8_read_L77 La Sz (nI k) (nI l) f (nI i) m 0 (nI (c + 1)) := by
  rw [f_X8_read_L77, if_neg (show ¬ (3 : Int32) ≤ nI c from nI_ge (b := 3) (by omega) (by omega)), if_pos rfl, rd_nI (by omega) (by omega), b1_some, hL, if_neg (nI_ne4 (by omega)), b1_some, if_pos rfl, rd_nI (by omega) (by omega), b1_some, hS, nI_1]
  have hp := read_p f hi hc
  have c0 : lg_cmp (f.toInt64 + (3 * nI i).toInt64 + (nI c).toInt64) 0 < 0 ↔ f.toInt + 3 * i + c < 0 := by
    rw [cmp_lt, Int64.lt_iff_toInt_lt, hp]; rfl
  have c1 : lg_cmp (f.toInt64 + (3 * nI i).toInt64 + (nI c).toInt64) (nI n).toInt64 < 0 ↔ f.toInt + 3 * i + c < n := by
    rw [cmp_lt, Int64.lt_iff_toInt_lt, hp, nI_l64 (by omega)]
  by_cases d0 : f.toInt + 3 * i + c < 0
  · rw [if_pos (c0.mpr d0), if_pos (Or.inl d0)]
  · rw [if_neg (fun z => d0 (c0.mp z))]
    by_cases d1 : f.toInt + 3 * i + c < n
    · rw [if_pos (c1.mpr d1), if_neg (by omega)]
    · rw [if_neg (fun z => d1 (c1.mp z)), if_pos (by omega)]
theorem read_fault {k : Nat} (hk : k < 4) {Th L S : Int32} {C : Nat → Int32} (h : SH k Th L S C La Sz Ce) {l : Nat} (hl : l ≤ 2) (f : Int32) {i : Nat} (hi : i < 13) : ∃ r, f_X6_faultOfReading Th L S (nI l) (f + 3 * nI i) = some r ∧ f_X8_read_L77 La Sz (nI k) (nI l) f (nI i) 400 0 0 = some r ∧ (r = 0 → ∃ a, a + 3 ≤ 40 ∧ f + 3 * nI i = nI a ∧ ∀ j, j < 40 → Ce (40 * k + j) = C j) := by
  have e0 : (0 : Int32) = nI 0 := rfl
  unfold f_X6_faultOfReading
  rcases h with ⟨h1, h2⟩ | ⟨h1, l', n, h2, h3, h4, h5, h6, h7, h8⟩
  · refine ⟨1, by rw [if_pos h1], ?_, fun z => absurd z (by decide)⟩
    rw [f_X8_read_L77, if_neg (by decide), if_pos rfl, rd_nI (by omega) (by omega), b1_some, if_pos h2]
    exact read_stop2 (by decide) 398 1
  · subst h1 h4 h6
    rw [if_neg n10]
    by_cases cl : nI l = nI l'
    · have cl' : l = l' := (nI_eq (by omega) (by omega)).mp cl
      subst cl'
      rw [if_pos rfl]
      have lo := i32_lo f
      have hi2 := i32_hi f
      have e3 : (3 : Int32) = nI 3 := rfl
      have hat : (f + 3 * nI i).toInt = if f.toInt + 3 * i < 2147483648 then f.toInt + 3 * i else f.toInt + 3 * i - 4294967296 := by
        rw [e3, pk_mul, Int32.toInt_add, nI_toInt (by omega)]
        by_cases c : f.toInt + 3 * i < 2147483648
        · rw [if_pos c, Int.bmod_eq_of_le (by omega) (by omega)]; omega
        · rw [if_neg c]
          rw [Int.bmod_def]; split <;> omega
      have hs3 : (nI n - 3).toInt = (n : Int) - 3 := pk_sub_toInt (a := n) (b := 3) (by omega) (by omega)
      have z0 : (0 : Int32).toInt = 0 := rfl
      -- the reference
      have hM : f_X8_read_L77 La Sz (nI k) (nI l) f (nI i) 400 0 0 = some (if f.toInt + 3 * i < 0 ∨ n ≤ f.toInt + 3 * i + 2 then 2 else 0) := by
        have s0 := read_step hk h3 h2 h5 h7 f hi 399 0 (by omega)
        have s1 := read_step hk h3 h2 h5 h7 f hi 398 1 (by omega)
        have s2 := read_step hk h3 h2 h5 h7 f hi 397 2 (by omega)
        have t : ∀ m c, f_X8_read_L77 La Sz (nI k) (nI l) f (nI i) (m + 1) 2 (nI c) = some 2 := fun m c => read_stop2 (by decide) m c
        have t3 : f_X8_read_L77 La Sz (nI k) (nI l) f (nI i) 397 0 (nI 3) = some 0 := by
          rw [f_X8_read_L77, if_pos (by decide)]
        have s0' : f_X8_read_L77 La Sz (nI k) (nI l) f (nI i) 400 0 0 = _ := s0
        rw [s0', t 398 1, s1, t 397 2, s2, t 396 3, t3]
        by_cases d : f.toInt + 3 * i < 0 ∨ n ≤ f.toInt + 3 * i + 2
        · rw [if_pos d]
          by_cases d0 : f.toInt + 3 * i + (0 : Nat) < 0 ∨ n ≤ f.toInt + 3 * i + (0 : Nat)
          · rw [if_pos d0]
          · rw [if_neg d0]
            by_cases d1 : f.toInt + 3 * i + (1 : Nat) < 0 ∨ n ≤ f.toInt + 3 * i + (1 : Nat)
            · rw [if_pos d1]
            · rw [if_neg d1, if_pos (by omega)]
        · rw [if_neg d, if_neg (by omega), if_neg (by omega), if_neg (by omega)]
      rw [hM]
      by_cases d : f.toInt + 3 * i < 0 ∨ n ≤ f.toInt + 3 * i + 2
      · refine ⟨2, ?_, by rw [if_pos d], fun z => absurd z (by decide)⟩
        by_cases c1 : f + 3 * nI i < 0
        · rw [if_pos c1]
        · rw [if_neg c1, if_pos]
          have w := Int32.le_iff_toInt_le.mp (Int32.not_lt.mp c1)
          refine Int32.lt_iff_toInt_lt.mpr ?_
          rw [hs3, hat]
          rw [hat, z0] at w
          split at w <;> split <;> omega
      · have hb : f.toInt + 3 * i < 2147483648 := by omega
        rw [if_pos hb] at hat
        refine ⟨0, ?_, by rw [if_neg d], fun _ => ?_⟩
        · rw [if_neg (fun z => by have := Int32.lt_iff_toInt_lt.mp z; rw [hat, z0] at this; omega), if_neg (fun z => by have := Int32.lt_iff_toInt_lt.mp z; rw [hat, hs3] at this; omega)]
        · obtain ⟨a, ha, ea⟩ := nI_of (x := f + 3 * nI i) (fun z => by have := Int32.lt_iff_toInt_lt.mp z; rw [hat, z0] at this; omega)
          refine ⟨a, ?_, ea, h8⟩
          have := nI_toInt ha
          rw [← ea, hat] at this
          omega
    · rw [if_neg cl]
      refine ⟨3, rfl, ?_, fun z => absurd z (by decide)⟩
      rw [f_X8_read_L77, if_neg (by decide), if_pos rfl, rd_nI (by omega) (by omega), b1_some, h5, if_neg (nI_ne4 (by omega)), b1_some, if_neg (fun z => cl z.symm)]
      exact read_stop2 (by decide) 398 1
theorem M_before_L {st : Nat → Int32} : ∀ (d i : Nat) (b : Nat → Int32) (n : Nat), i + d = 61 → d < n → (∀ j, j < i → b j = st j) → ∃ b', f_X8_read_L26 st n (nI i) b = some b' ∧ ∀ j, j < 61 → b' j = st j := by
  intro d
  induction d with
  | zero =>
    intro i b n hi hn h
    obtain ⟨n, rfl⟩ : ∃ m, n = m + 1 := ⟨n - 1, by omega⟩
    have e : (61 : Int32) = nI 61 := rfl
    rw [f_X8_read_L26, e, if_pos (nI_le (by omega) (by omega))]
    exact ⟨b, rfl, fun j hj => h j (by omega)⟩
  | succ d ih =>
    intro i b n hi hn h
    obtain ⟨n, rfl⟩ : ∃ m, n = m + 1 := ⟨n - 1, by omega⟩
    have e : (61 : Int32) = nI 61 := rfl
    rw [f_X8_read_L26, e, if_neg (nI_ge (by omega) (by omega)), rd_nI (by omega) (by omega), b1_some, wr_nI (by omega) (by omega), b1_some, nI_1]
    refine ih (i + 1) _ n (by omega) (by omega) (fun j hj => ?_)
    by_cases c : j = i
    · subst c; exact upd_s
    · rw [upd_n c]; exact h j (by omega)
theorem M_undo_L {b : Nat → Int32} : ∀ (d i : Nat) (st0 st : Nat → Int32) (n : Nat), i + d = 61 → d < n → (∀ j, j < i → st j = b j) → (∀ j, i ≤ j → st j = st0 j) → ∃ st', f_X8_read_L217 b n (nI i) st = some st' ∧ (∀ j, j < 61 → st' j = b j) ∧ ∀ j, 61 ≤ j → st' j = st0 j := by
  intro d
  induction d with
  | zero =>
    intro i st0 st n hi hn h h2
    obtain ⟨n, rfl⟩ : ∃ m, n = m + 1 := ⟨n - 1, by omega⟩
    have e : (61 : Int32) = nI 61 := rfl
    rw [f_X8_read_L217, e, if_pos (nI_le (by omega) (by omega))]
    exact ⟨st, rfl, fun j hj => h j (by omega), fun j hj => h2 j (by omega)⟩
  | succ d ih =>
    intro i st0 st n hi hn h h2
    obtain ⟨n, rfl⟩ : ∃ m, n = m + 1 := ⟨n - 1, by omega⟩
    have e : (61 : Int32) = nI 61 := rfl
    rw [f_X8_read_L217, e, if_neg (nI_ge (by omega) (by omega)), rd_nI (by omega) (by omega), b1_some, wr_nI (by omega) (by omega), b1_some, nI_1]
    refine ih (i + 1) st0 _ n (by omega) (by omega) (fun j hj => ?_) (fun j hj => ?_)
    · by_cases c : j = i
      · subst c; exact upd_s
      · rw [upd_n c]; exact h j (by omega)
    · rw [upd_n (by omega)]; exact h2 j (by omega)
variable {P : Nat} {st0 : Nat → Int32} {Da Dr : Int32} {Na Mo0 Wa De0 : Nat → Int32}
theorem read_L {k l N : Nat} (hk : k < 4) (hl : l ≤ 2) (hN : N ≤ 13) {Th L S : Int32} {C : Nat → Int32} (hS : SH k Th L S C La Sz Ce) (f xTb torn : Int32) (bef : Nat → Int32) (hb : ∀ j, j < 61 → bef j = st0 j) : ∀ (d i : Nat) (came : Int32) (Mo De st now : Nat → Int32) (n n2 : Nat), i + d = N → d + 1 < n → d + 1 < n2 → LI P st Da Dr Na Mo Wa De → Kp st0 st →
    (∃ r came' Mo' De' st' now', f_X7_read_L57 xTb (nI P) Da Dr Na Mo0 Wa De0 Th L S C (nI l) f (nI N) (nI P) Da Dr Na Wa n 0 came (nI i) Mo De = some (Sum.inr (r, came', Mo', De')) ∧ f_X8_read_L62 (nI P) La Sz Ce torn (nI k) (nI l) f (nI N) bef n2 0 came (nI i) st now = some (Sum.inr (r, came', st', now')) ∧ LI P st' Da Dr Na Mo' Wa De' ∧ Kp st0 st') ∨
    (∃ v Mo' De' now', f_X7_read_L57 xTb (nI P) Da Dr Na Mo0 Wa De0 Th L S C (nI l) f (nI N) (nI P) Da Dr Na Wa n 0 came (nI i) Mo De = some (Sum.inl (v, xTb, nI P, Da, Dr, Na, Mo0, Wa, De0, nI P, Da, Dr, Na, Mo', Wa, De')) ∧ f_X8_read_L62 (nI P) La Sz Ce torn (nI k) (nI l) f (nI N) bef n2 0 came (nI i) st now = some (Sum.inl (v, st0, now', torn, bef))) := by
  intro d
  induction d with
  | zero =>
    intro i came Mo De st now n n2 hi hn hn2 h hK
    obtain ⟨n, rfl⟩ : ∃ m, n = m + 1 := ⟨n - 1, by omega⟩
    obtain ⟨n2, rfl⟩ : ∃ m, n2 = m + 1 := ⟨n2 - 1, by omega⟩
    left
    rw [f_X7_read_L57, f_X8_read_L62, if_pos (nI_le (by omega) (by omega)), if_pos (nI_le (by omega) (by omega))]
    exact ⟨_, _, _, _, _, _, rfl, rfl, h, hK⟩
  | succ d ih =>
    intro i came Mo De st now n n2 hi hn hn2 h hK
    obtain ⟨n, rfl⟩ : ∃ m, n = m + 1 := ⟨n - 1, by omega⟩
    obtain ⟨n2, rfl⟩ : ∃ m, n2 = m + 1 := ⟨n2 - 1, by omega⟩
    obtain ⟨r, e1, e2, e3⟩ := read_fault hk hS hl f (i := i) (by omega)
    rw [f_X7_read_L57, f_X8_read_L62, if_neg (nI_ge (by omega) (by omega)), if_neg (nI_ge (by omega) (by omega)), if_pos rfl, if_pos rfl, e1, b1_some, e2, b1_some, nI_1]
    by_cases c : r = 0
    · subst c
      obtain ⟨a, ha, ea, hc⟩ := e3 rfl
      rw [if_pos rfl, if_pos rfl]
      have ix : (40 * nI k + f) + 3 * nI i = nI (40 * k + a) := by
        have e40 : (40 : Int32) = nI 40 := rfl
        rw [Int32.add_assoc, ea, e40, pk_mul, nI_add]
      have two : ∀ m, nI m + 2 = nI (m + 2) := by
        intro m
        have e2 : (2 : Int32) = nI 2 := rfl
        rw [e2, nI_add]
      rw [ea, ix, nI_1, nI_1, two, two, rd_nI (by omega) (by omega), b1_some, rd_nI (by omega) (by omega), b1_some, rd_nI (by omega) (by omega), b1_some, rd_nI (by omega) (by omega), b1_some, rd_nI (by omega) (by omega), b1_some, rd_nI (by omega) (by omega), b1_some, hc a (by omega), Nat.add_assoc, hc (a + 1) (by omega), Nat.add_assoc, hc (a + 2) (by omega)]
      obtain ⟨v, Mo', De', st', now', p1, p2, p3, p4, p5⟩ := e_pay h now (C a) (C (a + 1)) (C (a + 2))
      rw [p1, b3_some, p2, b3_some]
      by_cases cv : 0 ≤ v
      · rw [if_pos cv, if_pos cv]
        exact ih (i + 1) (came + 1) Mo' De' st' now' n n2 (by omega) (by omega) (by omega) p3 (hK.tr p4)
      · right
        obtain ⟨s1, u1, u2, u3⟩ := M_undo_L (b := bef) 61 0 st' st' 400 (by omega) (by omega) (fun j hj => absurd hj (by omega)) (fun _ _ => rfl)
        rw [nI_0] at u1
        rw [if_neg cv, if_neg cv, u1, b1_some]
        have es : s1 = st0 := by
          funext j
          by_cases cj : j < 61
          · rw [u2 j cj, hb j cj]
          · rw [u3 j (by omega)]
            exact (hK.tr p4) j (by omega)
        rw [es]
        exact ⟨_, _, _, _, rfl, rfl⟩
    · left
      rw [if_neg c, if_neg c]
      obtain ⟨n, rfl⟩ : ∃ m, n = m + 1 := ⟨n - 1, by omega⟩
      obtain ⟨n2, rfl⟩ : ∃ m, n2 = m + 1 := ⟨n2 - 1, by omega⟩
      rw [f_X7_read_L57, f_X8_read_L62]
      by_cases cl : nI N ≤ nI (i + 1)
      · rw [if_pos cl, if_pos cl]; exact ⟨_, _, _, _, _, _, rfl, rfl, h, hK⟩
      · rw [if_neg cl, if_neg cl, if_neg c, if_neg c]; exact ⟨_, _, _, _, _, _, rfl, rfl, h, hK⟩
theorem read_one {k : Nat} (hk : k < 4) {Th L S : Int32} {C : Nat → Int32} (hS : SH k Th L S C La Sz Ce) (h : LI P st0 Da Dr Na Mo0 Wa De0) (xTb : Int32) (now bef : Nat → Int32) {y w : Int32} (z : Int32) (hy : tb y 0 2 = 1) (hw : tb w 0 13 = 1) :
    ∃ r Tb' Mo' De' u1 u2 u3 u4 u5 u6 u7 st' now' bef', (bs4 (f_X7_read_L57 xTb (nI P) Da Dr Na Mo0 Wa De0 Th L S C y z w (nI P) Da Dr Na Wa 400 0 0 0 Mo0 De0) fun v6 v7 tMo tDe => b7 (f_X1_become (nI P) Da Dr Na tMo Wa tDe) fun a1 a2 a3 a4 a5 a6 a7 => some (v7, v6, a1, a2, a3, a4, a5, a6, a7, nI P, Da, Dr, Na, tMo, Wa, tDe)) = some (r, Tb', nI P, Da, Dr, Na, Mo', Wa, De', u1, u2, u3, u4, u5, u6, u7) ∧ f_X8_read st0 now (nI P) La Sz Ce xTb bef (nI k) y z w = some (r, st', now', Tb', bef') ∧ LI P st' Da Dr Na Mo' Wa De' ∧ Kp st0 st' := by
  obtain ⟨l, -, hl, rfl⟩ := tb_nI (lo := 0) (hi := 2) hy
  obtain ⟨N, -, hN, rfl⟩ := tb_nI (lo := 0) (hi := 13) hw
  have t : tb (nI k) 0 3 = 1 := by unfold tb; rw [if_pos]; rw [nI_toInt (by omega)]; omega
  obtain ⟨b1, f1, f2⟩ := M_before_L (st := st0) 61 0 bef 400 (by omega) (by omega) (fun j hj => absurd hj (by omega))
  rw [nI_0] at f1
  unfold f_X8_read f_X8_isSheet
  rw [M_in (nI k) 0 3 rfl rfl, t, M_in (nI l) 0 2 rfl rfl, hy, M_in (nI N) 0 13 rfl rfl, hw]
  simp only [b1_some, if_neg n10]
  rw [f1, b1_some]
  rcases read_L (P := P) (st0 := st0) (Da := Da) (Dr := Dr) (Na := Na) (Mo0 := Mo0) (Wa := Wa) (De0 := De0) hk hl hN hS z xTb xTb b1 f2 N 0 0 Mo0 De0 st0 now 400 400 (by omega) (by omega) (by omega) h Kp.rf with ⟨r, came, Mo', De', st', now', e1, e2, e3, e4⟩ | ⟨v, Mo', De', now', e1, e2⟩
  · rw [nI_0] at e1 e2
    rw [e1, e2]
    exact ⟨_, _, _, _, _, _, _, _, _, _, _, _, _, _, rfl, rfl, e3, e4⟩
  · rw [nI_0] at e1 e2
    rw [e1, e2]
    exact ⟨_, _, _, _, _, _, _, _, _, _, _, _, _, _, rfl, rfl, h, Kp.rf⟩
variable {y0Th y0La y0Sz y1Th y1La y1Sz y2Th y2La y2Sz y3Th y3La y3Sz : Int32} {y0Ce y1Ce y2Ce y3Ce : Nat → Int32}
theorem e_read (h : LI P st0 Da Dr Na Mo0 Wa De0) (h0 : SH 0 y0Th y0La y0Sz y0Ce La Sz Ce) (h1 : SH 1 y1Th y1La y1Sz y1Ce La Sz Ce) (h2 : SH 2 y2Th y2La y2Sz y2Ce La Sz Ce) (h3 : SH 3 y3Th y3La y3Sz y3Ce La Sz Ce) (xTb : Int32) (now bef : Nat → Int32) (t1 t2 t3 : Int32) (t4 t5 t6 t7 : Nat → Int32) (x y z w : Int32) :
    ∃ r Tb' Mo' De' u1 u2 u3 u4 u5 u6 u7 st' now' bef', f_X7_read xTb (nI P) Da Dr Na Mo0 Wa De0 t1 t2 t3 t4 t5 t6 t7 y0Th y0La y0Sz y0Ce y1Th y1La y1Sz y1Ce y2Th y2La y2Sz y2Ce y3Th y3La y3Sz y3Ce x y z w = some (r, Tb', nI P, Da, Dr, Na, Mo', Wa, De', u1, u2, u3, u4, u5, u6, u7) ∧ f_X8_read st0 now (nI P) La Sz Ce xTb bef x y z w = some (r, st', now', Tb', bef') ∧ LI P st' Da Dr Na Mo' Wa De' ∧ Kp st0 st' := by
  unfold f_X7_read
  rw [X_isSheet, X_within y 0 2 rfl rfl, X_within w 0 13 rfl rfl]
  simp only [b1_some]
  rcases tb_cases x 0 3 with ⟨t, -⟩ | ⟨t, -⟩
  · rcases tb_cases y 0 2 with ⟨s, -⟩ | ⟨s, -⟩
    · rcases tb_cases w 0 13 with ⟨u, -⟩ | ⟨u, -⟩
      · obtain ⟨k, -, hk, rfl⟩ := tb_nI (lo := 0) (hi := 3) t
        rw [t, s, u, if_neg n10]
        simp only [if_neg n10]
        match k, hk with
        | 0, _ =>
          rw [if_pos (by rfl)]
          exact read_one (by omega) h0 h xTb now bef z s u
        | 1, _ =>
          rw [if_neg (by decide), if_pos (by rfl)]
          exact read_one (by omega) h1 h xTb now bef z s u
        | 2, _ =>
          rw [if_neg (by decide), if_neg (by decide), if_pos (by rfl)]
          exact read_one (by omega) h2 h xTb now bef z s u
        | 3, _ =>
          rw [if_neg (by decide), if_neg (by decide), if_neg (by decide), if_pos (by rfl)]
          exact read_one (by omega) h3 h xTb now bef z s u
      · unfold f_X8_read f_X8_isSheet
        rw [M_in x 0 3 rfl rfl, M_in y 0 2 rfl rfl, M_in w 0 13 rfl rfl, t, s, u]
        exact ⟨_, _, _, _, _, _, _, _, _, _, _, _, _, _, rfl, rfl, h, Kp.rf⟩
    · unfold f_X8_read f_X8_isSheet
      rw [M_in x 0 3 rfl rfl, M_in y 0 2 rfl rfl, t, s]
      exact ⟨_, _, _, _, _, _, _, _, _, _, _, _, _, _, rfl, rfl, h, Kp.rf⟩
  · unfold f_X8_read f_X8_isSheet
    rw [M_in x 0 3 rfl rfl, t]
    exact ⟨_, _, _, _, _, _, _, _, _, _, _, _, _, _, rfl, rfl, h, Kp.rf⟩
end E11
