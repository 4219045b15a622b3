/-! ===== L2: what was seen, images, the tape ===== -/
def SN (P : Nat) (st Dy Wo Ri : Nat → Int32) (Sz : Int32) : Prop := ∃ s, s ≤ 6 ∧ Sz = nI s ∧ st 42 = nI s ∧ ∀ i, i < s → ∃ d w, d ≤ 30 ∧ w < P ∧ Dy i = nI d ∧ Wo i = nI w ∧ (Ri i = 0 ∨ Ri i = 1) ∧ st (43 + 3 * i) = Dy i ∧ st (43 + 3 * i + 1) = Wo i ∧ st (43 + 3 * i + 2) = Ri i
def sh (st : Nat → Int32) (o : Nat) : Nat → Int32 := fun j => st (o + j)
def IM (P : Nat) (st : Nat → Int32) (o : Nat) (kept Ke Pe Da Dr : Int32) (Na Mo Wa De Dy Wo Ri : Nat → Int32) (Sz : Int32) : Prop := kept = Ke ∧ (Ke = 0 ∨ (Ke = 1 ∧ Pe = nI P ∧ LI P (sh st o) Da Dr Na Mo Wa De ∧ SN P (sh st o) Dy Wo Ri Sz))
def SH (k : Nat) (Th La Sz : Int32) (Ce Lanes Sizes Cells : Nat → Int32) : Prop := (Th = 0 ∧ Lanes k = -4) ∨ (Th = 1 ∧ ∃ l n, l ≤ 2 ∧ n ≤ 40 ∧ La = nI l ∧ Lanes k = nI l ∧ Sz = nI n ∧ Sizes k = nI n ∧ ∀ i, i < 40 → Cells (40 * k + i) = Ce i)
def TP (By tape : Nat → Int32) (Le taped : Int32) : Prop := ∃ n, n ≤ 160 ∧ Le = nI n ∧ taped = nI n ∧ ∀ i, i < n → tape i = By i ∧ ∃ c, c ≤ 127 ∧ By i = nI c
section E6
variable {P : Nat} {st now : Nat → Int32} {Da Dr : Int32} {Na Mo Wa De Dy Wo Ri : Nat → Int32} {Sz : Int32}
theorem SN.same {st' : Nat → Int32} (h : SN P st Dy Wo Ri Sz) (hs : ∀ j, 42 ≤ j → j < 61 → st' j = st j) : SN P st' Dy Wo Ri Sz := by
  obtain ⟨s, h1, h2, h3, h4⟩ := h
  refine ⟨s, h1, h2, by rw [hs 42 (by omega) (by omega)]; exact h3, fun i hi => ?_⟩
  obtain ⟨d, w, a1, a2, a3, a4, a5, a6, a7, a8⟩ := h4 i hi
  exact ⟨d, w, a1, a2, a3, a4, a5, by rw [hs _ (by omega) (by omega)]; exact a6, by rw [hs _ (by omega) (by omega)]; exact a7, by rw [hs _ (by omega) (by omega)]; exact a8⟩
theorem IM.same {st' : Nat → Int32} {o : Nat} {kept Ke Pe : Int32} (h : IM P st o kept Ke Pe Da Dr Na Mo Wa De Dy Wo Ri Sz) (hs : ∀ j, o ≤ j → j < o + 61 → st' j = st j) : IM P st' o kept Ke Pe Da Dr Na Mo Wa De Dy Wo Ri Sz := by
  refine ⟨h.1, ?_⟩
  rcases h.2 with z | ⟨z1, z2, z3, z4⟩
  · exact Or.inl z
  · right
    exact ⟨z1, z2, z3.same (fun j hj => hs (o + j) (by omega) (by omega)), z4.same (fun j h1 h2 => hs (o + j) (by omega) (by omega))⟩
theorem flag_eq (x : Int32) : f_X8_flag x = some (if x = 0 then 0 else 1) := by
  unfold f_X8_flag
  by_cases c : x = 0
  · rw [if_pos c, if_pos c]
  · rw [if_neg c, if_neg c]
theorem e_see (hP : P ≤ 5) (h : SN P st Dy Wo Ri Sz) (x y z : Int32) : ∃ r Dy' Wo' Ri' Sz' st', f_X7_see (nI P) Dy Wo Ri Sz x y z = some (r, Dy', Wo', Ri', Sz') ∧ f_X8_see st (nI P) x y z = some (r, st') ∧ SN P st' Dy' Wo' Ri' Sz' ∧ (∀ j, j < 42 → st' j = st j) ∧ ∀ j, 61 ≤ j → st' j = st j := by
  have h' := h
  obtain ⟨s, h1, h2, h3, h4⟩ := h
  unfold f_X7_see f_X8_see
  rw [X_within x 0 30 rfl rfl, M_in x 0 30 rfl rfl, X_has hP, M_isOne hP]
  simp only [b1_some]
  rcases tb_cases x 0 30 with ⟨t, -⟩ | ⟨t, -⟩
  · obtain ⟨k, -, hk, rfl⟩ := tb_nI (lo := 0) (hi := 30) t
    rw [t, if_neg n10, if_neg n10]
    rcases one_cases hP y with c | ⟨p, hp, rfl, c⟩
    · rw [c]; exact ⟨_, _, _, _, _, _, rfl, rfl, h', fun _ _ => rfl, fun _ _ => rfl⟩
    rw [c, if_neg n10, if_neg n10]
    have r42 : ∀ f : Nat → Int32, rd f 183 42 = some (f 42) := fun f => rd183 (i := 42) (by omega)
    rw [r42, h3, h2]
    simp only [b1_some]
    by_cases c6 : s = 6
    · subst c6
      rw [if_neg (by decide), if_pos (by rfl)]
      subst h2
      exact ⟨_, _, _, _, _, _, rfl, rfl, h', fun _ _ => rfl, fun _ _ => rfl⟩
    · have l6 : nI s < 6 := nI_lt (b := 6) (by omega) (by omega)
      have n6 : ¬ (6 : Int32) ≤ nI s := nI_ge (b := 6) (by omega) (by omega)
      have q6 : ¬ nI s = 6 := fun e => c6 ((nI_eq (b := 6) (by omega) (by omega)).mp e)
      have ix : (43 : Int32) + 3 * nI s = nI (43 + 3 * s) := by
        have e1 : (43 : Int32) = nI 43 := rfl
        have e2 : (3 : Int32) = nI 3 := rfl
        rw [e1, e2, pk_mul, nI_add]
      have ix2 : nI (43 + 3 * s) + 2 = nI (43 + 3 * s + 2) := by
        have e2 : (2 : Int32) = nI 2 := rfl
        rw [e2, nI_add]
      rw [if_pos l6, if_neg q6, ix, nI_1, ix2, wr_nI (by omega) (by omega), b1_some, wr_nI (by omega) (by omega), b1_some, flag_eq, b1_some, wr_nI (by omega) (by omega), b1_some, r42, b1_some]
      have w42 : ∀ (f : Nat → Int32) v, wr f 183 42 v = some (upd f 42 v) := fun f v => wr_nI (i := 42) (by omega) (by omega)
      rw [w42, b1_some, r42, b1_some, upd_s, upd_n (by omega), upd_n (by omega), upd_n (by omega), h3, nI_1]
      unfold f_X5_add
      rw [if_neg n6, wr_nI (by omega) (by omega), b1_some, wr_nI (by omega) (by omega), b1_some]
      have ez : (if z = 0 then some (0 : Int32) else some 1) = some (if z = 0 then 0 else 1) := by
        by_cases cz : z = 0
        · rw [if_pos cz, if_pos cz]
        · rw [if_neg cz, if_neg cz]
      rw [ez, b1_some, wr_nI (by omega) (by omega), b1_some, b4_some, nI_1]
      refine ⟨_, _, _, _, _, _, rfl, rfl, ⟨s + 1, by omega, rfl, upd_s, fun i hi => ?_⟩, fun j hj => ?_, fun j hj => ?_⟩
      · by_cases ci : i = s
        · subst ci
          refine ⟨k, p, hk, hp, upd_s, upd_s, ?_, ?_, ?_, ?_⟩
          · rw [upd_s]
            by_cases cz : z = 0
            · rw [if_pos cz]; exact Or.inl rfl
            · rw [if_neg cz]; exact Or.inr rfl
          · rw [upd_n (by omega), upd_n (by omega), upd_n (by omega), upd_s, upd_s]
          · rw [upd_n (by omega), upd_n (by omega), upd_s, upd_s]
          · rw [upd_n (by omega), upd_s, upd_s]
        · obtain ⟨d, w, a1, a2, a3, a4, a5, a6, a7, a8⟩ := h4 i (by omega)
          refine ⟨d, w, a1, a2, by rw [upd_n ci]; exact a3, by rw [upd_n ci]; exact a4, by rw [upd_n ci]; exact a5, ?_, ?_, ?_⟩
          · rw [upd_n (by omega), upd_n (by omega), upd_n (by omega), upd_n (by omega), upd_n ci]; exact a6
          · rw [upd_n (by omega), upd_n (by omega), upd_n (by omega), upd_n (by omega), upd_n ci]; exact a7
          · rw [upd_n (by omega), upd_n (by omega), upd_n (by omega), upd_n (by omega), upd_n ci]; exact a8
      · rw [upd_n (by omega), upd_n (by omega), upd_n (by omega), upd_n (by omega)]
      · rw [upd_n (by omega), upd_n (by omega), upd_n (by omega), upd_n (by omega)]
  · rw [t]; exact ⟨_, _, _, _, _, _, rfl, rfl, h', fun _ _ => rfl, fun _ _ => rfl⟩
theorem nI_l64 {n : Nat} (h : n < 2 ^ 31) : ((nI n).toInt64).toInt = (n : Int) := by
  rw [Int32.toInt_toInt64, nI_toInt h]
theorem e_forget (h : SN P st Dy Wo Ri Sz) (x : Int32) : ∃ r Sz' st', f_X7_forget Sz x = some (r, Sz') ∧ f_X8_forget st x = some (r, st') ∧ SN P st' Dy Wo Ri Sz' ∧ (∀ j, j < 42 → st' j = st j) ∧ ∀ j, 61 ≤ j → st' j = st j := by
  have h' := h
  obtain ⟨s, h1, rfl, h3, h4⟩ := h
  unfold f_X7_forget f_X8_forget
  have r42 : rd st 183 42 = some (st 42) := rd183 (i := 42) (by omega)
  rw [X_within x 0 s rfl (nI_toInt (by omega)), r42, h3]
  simp only [b1_some]
  rw [M_in x 0 s rfl (nI_l64 (by omega)), b1_some]
  rcases tb_cases x 0 s with ⟨t, -⟩ | ⟨t, -⟩
  · obtain ⟨k, -, hk, rfl⟩ := tb_nI (lo := 0) (hi := s) t
    have e : ∀ v, f_X8_becomes st 42 v = some (st 42, upd st 42 v) := fun v => M_becomes (i := 42) (by omega) v
    rw [t, if_neg n10, if_neg n10, e, b2_some, h3]
    refine ⟨_, _, _, rfl, rfl, ⟨k, by omega, rfl, upd_s, fun i hi => ?_⟩, fun j hj => upd_n (by omega), fun j hj => upd_n (by omega)⟩
    obtain ⟨d, w, a1, a2, a3, a4, a5, a6, a7, a8⟩ := h4 i (by omega)
    exact ⟨d, w, a1, a2, a3, a4, a5, by rw [upd_n (by omega)]; exact a6, by rw [upd_n (by omega)]; exact a7, by rw [upd_n (by omega)]; exact a8⟩
  · rw [t]; exact ⟨_, _, _, rfl, rfl, h', fun _ _ => rfl, fun _ _ => rfl⟩
theorem M_copies_L {a b : Nat} (ha : a + 61 ≤ 183) (hb : b + 61 ≤ 183) (hab : a + 61 ≤ b ∨ b + 61 ≤ a) (st0 : Nat → Int32) : ∀ (d i : Nat) (st : Nat → Int32) (n : Nat), i + d = 61 → d < n → (∀ j, j < i → st (a + j) = st0 (b + j)) → (∀ j, (j < a ∨ a + i ≤ j) → st j = st0 j) → ∃ st', f_X8_copies_L2 (nI a) (nI b) n (nI i) st = some st' ∧ (∀ j, j < 61 → st' (a + j) = st0 (b + j)) ∧ ∀ j, (j < a ∨ a + 61 ≤ j) → st' j = st0 j := by
  intro d
  induction d with
  | zero =>
    intro i st n hi hn h1 h2
    obtain ⟨n, rfl⟩ : ∃ m, n = m + 1 := ⟨n - 1, by omega⟩
    have e : (61 : Int32) = nI 61 := rfl
    rw [f_X8_copies_L2, e, if_pos (nI_le (by omega) (by omega))]
    exact ⟨st, rfl, fun j hj => h1 j (by omega), fun j hj => h2 j (by omega)⟩
  | succ d ih =>
    intro i st n hi hn h1 h2
    obtain ⟨n, rfl⟩ : ∃ m, n = m + 1 := ⟨n - 1, by omega⟩
    have e : (61 : Int32) = nI 61 := rfl
    rw [f_X8_copies_L2, e, if_neg (nI_ge (by omega) (by omega)), nI_add, nI_add, rd_nI (by omega) (by omega), b1_some, wr_nI (by omega) (by omega), b1_some, nI_1]
    refine ih (i + 1) _ n (by omega) (by omega) (fun j hj => ?_) (fun j hj => ?_)
    · by_cases c : j = i
      · subst c; rw [upd_s]; exact h2 _ (by omega)
      · rw [upd_n (by omega)]; exact h1 j (by omega)
    · rw [upd_n (by omega)]; exact h2 j (by omega)
theorem M_copies {a b : Nat} (ha : a + 61 ≤ 183) (hb : b + 61 ≤ 183) (hab : a + 61 ≤ b ∨ b + 61 ≤ a) (st : Nat → Int32) : ∃ st', f_X8_copies st (nI a) (nI b) = some st' ∧ (∀ j, j < 61 → st' (a + j) = st (b + j)) ∧ ∀ j, (j < a ∨ a + 61 ≤ j) → st' j = st j := by
  obtain ⟨s1, e1, h1, h2⟩ := M_copies_L ha hb hab st 61 0 st 400 (by omega) (by omega) (fun j hj => absurd hj (by omega)) (fun _ _ => rfl)
  rw [nI_0] at e1
  unfold f_X8_copies
  rw [e1, b1_some]
  exact ⟨s1, rfl, h1, h2⟩
theorem tb01 {x : Int32} (h : tb x 0 1 = 1) : x = 0 ∨ x = 1 := by
  obtain ⟨k, -, hk, rfl⟩ := tb_nI (lo := 0) (hi := 1) h
  match k, hk with
  | 0, _ => exact Or.inl rfl
  | 1, _ => exact Or.inr rfl
end E6
section E7
variable {P : Nat} {st kept : Nat → Int32} {Da Dr : Int32} {Na Mo Wa De Dy Wo Ri : Nat → Int32} {Sz : Int32}
variable {i0Ke i1Ke j0Pe j0Da j0Dr j1Pe j1Da j1Dr : Int32} {j0Na j0Mo j0Wa j0De j1Na j1Mo j1Wa j1De k0Dy k0Wo k0Ri k1Dy k1Wo k1Ri : Nat → Int32} {k0Sz k1Sz : Int32}
theorem e_keep (h : LI P st Da Dr Na Mo Wa De) (hs : SN P st Dy Wo Ri Sz) (h0 : IM P st 61 (kept 0) i0Ke j0Pe j0Da j0Dr j0Na j0Mo j0Wa j0De k0Dy k0Wo k0Ri k0Sz) (h1 : IM P st 122 (kept 1) i1Ke j1Pe j1Da j1Dr j1Na j1Mo j1Wa j1De k1Dy k1Wo k1Ri k1Sz) (x : Int32) :
    ∃ r a0 a1 b1 b2 b3 b4 b5 b6 b7 c1 c2 c3 c4 c5 c6 c7 d1 d2 d3 d4 e1 e2 e3 e4 st' kept', f_X7_keep (nI P) Da Dr Na Mo Wa De Dy Wo Ri Sz i0Ke i1Ke j0Pe j0Da j0Dr j0Na j0Mo j0Wa j0De j1Pe j1Da j1Dr j1Na j1Mo j1Wa j1De k0Dy k0Wo k0Ri k0Sz k1Dy k1Wo k1Ri k1Sz x = some (r, a0, a1, b1, b2, b3, b4, b5, b6, b7, c1, c2, c3, c4, c5, c6, c7, d1, d2, d3, d4, e1, e2, e3, e4) ∧ f_X8_keep st kept x = some (r, st', kept') ∧ (∀ j, j < 61 → st' j = st j) ∧ IM P st' 61 (kept' 0) a0 b1 b2 b3 b4 b5 b6 b7 d1 d2 d3 d4 ∧ IM P st' 122 (kept' 1) a1 c1 c2 c3 c4 c5 c6 c7 e1 e2 e3 e4 := by
  unfold f_X7_keep f_X8_keep
  rw [X_within x 0 1 rfl rfl, M_in x 0 1 rfl rfl, b1_some, b1_some]
  rcases tb_cases x 0 1 with ⟨t, -⟩ | ⟨t, -⟩
  · rw [t, if_neg n10, if_neg n10]
    unfold f_X1_become f_X5_become
    have fl : ∀ v : Int32, (if v = 0 then some (0 : Int32) else some 1) = some (if v = 0 then 0 else 1) := by
      intro v
      by_cases c : v = 0
      · rw [if_pos c, if_pos c]
      · rw [if_neg c, if_neg c]
    rcases tb01 t with rfl | rfl
    · have r0 : rd kept 2 0 = some (kept 0) := rd_nI (i := 0) (by omega) (by omega)
      have w0 : ∀ v, wr kept 2 0 v = some (upd kept 0 v) := fun v => wr_nI (i := 0) (by omega) (by omega)
      obtain ⟨s1, e1, g1, g2⟩ := M_copies (a := 61) (b := 0) (by omega) (by omega) (by omega) st
      have e1' : f_X8_copies st (61 * (0 + 1)) 0 = some s1 := e1
      rw [if_pos rfl, r0, b1_some, flag_eq, b1_some, w0, b1_some, e1', b1_some, fl, b1_some, b7_some, b4_some, h0.1]
      refine ⟨_, _, _, _, _, _, _, _, _, _, _, _, _, _, _, _, _, _, _, _, _, _, _, _, _, _, _, rfl, rfl, fun j hj => g2 j (by omega), ⟨upd_s, Or.inr ⟨rfl, rfl, ?_, ?_⟩⟩, ?_⟩
      · refine h.same (fun j hj => ?_)
        have := g1 j (by omega)
        rw [Nat.zero_add] at this; exact this
      · refine hs.same (fun j _ hj => ?_)
        have := g1 j (by omega)
        rw [Nat.zero_add] at this; exact this
      · rw [upd_n (by omega)]
        exact h1.same (fun j a b => g2 j (by omega))
    · have r0 : rd kept 2 1 = some (kept 1) := rd_nI (i := 1) (by omega) (by omega)
      have w0 : ∀ v, wr kept 2 1 v = some (upd kept 1 v) := fun v => wr_nI (i := 1) (by omega) (by omega)
      obtain ⟨s1, e1, g1, g2⟩ := M_copies (a := 122) (b := 0) (by omega) (by omega) (by omega) st
      have e1' : f_X8_copies st (61 * (1 + 1)) 0 = some s1 := e1
      rw [if_neg n10, if_pos rfl, r0, b1_some, flag_eq, b1_some, w0, b1_some, e1', b1_some, fl, b1_some, b7_some, b4_some, h1.1]
      refine ⟨_, _, _, _, _, _, _, _, _, _, _, _, _, _, _, _, _, _, _, _, _, _, _, _, _, _, _, rfl, rfl, fun j hj => g2 j (by omega), ?_, ⟨upd_s, Or.inr ⟨rfl, rfl, ?_, ?_⟩⟩⟩
      · rw [upd_n (by omega)]
        exact h0.same (fun j a b => g2 j (by omega))
      · refine h.same (fun j hj => ?_)
        have := g1 j (by omega)
        rw [Nat.zero_add] at this; exact this
      · refine hs.same (fun j _ hj => ?_)
        have := g1 j (by omega)
        rw [Nat.zero_add] at this; exact this
  · rw [t]
    exact ⟨_, _, _, _, _, _, _, _, _, _, _, _, _, _, _, _, _, _, _, _, _, _, _, _, _, _, _, rfl, rfl, fun _ _ => rfl, h0, h1⟩
theorem e_back (h : LI P st Da Dr Na Mo Wa De) (hs : SN P st Dy Wo Ri Sz) (h0 : IM P st 61 (kept 0) i0Ke j0Pe j0Da j0Dr j0Na j0Mo j0Wa j0De k0Dy k0Wo k0Ri k0Sz) (h1 : IM P st 122 (kept 1) i1Ke j1Pe j1Da j1Dr j1Na j1Mo j1Wa j1De k1Dy k1Wo k1Ri k1Sz) (x : Int32) :
    ∃ r b2 b3 b4 b5 b6 b7 d1 d2 d3 d4 st', f_X7_back (nI P) Da Dr Na Mo Wa De Dy Wo Ri Sz i0Ke i1Ke j0Pe j0Da j0Dr j0Na j0Mo j0Wa j0De j1Pe j1Da j1Dr j1Na j1Mo j1Wa j1De k0Dy k0Wo k0Ri k0Sz k1Dy k1Wo k1Ri k1Sz x = some (r, nI P, b2, b3, b4, b5, b6, b7, d1, d2, d3, d4) ∧ f_X8_back st kept x = some (r, st') ∧ LI P st' b2 b3 b4 b5 b6 b7 ∧ SN P st' d1 d2 d3 d4 ∧ ∀ j, 61 ≤ j → st' j = st j := by
  unfold f_X7_back f_X8_back
  rw [X_within x 0 1 rfl rfl, M_in x 0 1 rfl rfl, b1_some, b1_some]
  have r40 : ∀ f : Nat → Int32, rd f 183 40 = some (f 40) := fun f => rd183 (i := 40) (by omega)
  rcases tb_cases x 0 1 with ⟨t, -⟩ | ⟨t, -⟩
  · rw [t, if_neg n10, if_neg n10]
    unfold f_X1_become f_X5_become
    rcases tb01 t with rfl | rfl
    · have r0 : rd kept 2 0 = some (kept 0) := rd_nI (i := 0) (by omega) (by omega)
      obtain ⟨s1, e1, g1, g2⟩ := M_copies (a := 0) (b := 61) (by omega) (by omega) (by omega) st
      have e1' : f_X8_copies st 0 (61 * (0 + 1)) = some s1 := e1
      rw [if_pos rfl, r0, b1_some, h0.1]
      rcases h0.2 with z | ⟨z1, z2, z3, z4⟩
      · rw [if_pos z, if_pos z]
        exact ⟨_, _, _, _, _, _, _, _, _, _, _, _, rfl, rfl, h, hs, fun _ _ => rfl⟩
      · have l2 : LI P s1 j0Da j0Dr j0Na j0Mo j0Wa j0De := z3.same (fun j hj => by have := g1 j (by omega); rw [Nat.zero_add] at this; exact this)
        have s2 : SN P s1 k0Dy k0Wo k0Ri k0Sz := z4.same (fun j _ hj => by have := g1 j (by omega); rw [Nat.zero_add] at this; exact this)
        rw [z1, if_neg n10, if_neg n10, e1', b1_some, b7_some, b4_some, r40, b1_some, l2.2.1.1, z2]
        exact ⟨_, _, _, _, _, _, _, _, _, _, _, _, rfl, rfl, l2, s2, fun j hj => g2 j (by omega)⟩
    · have r0 : rd kept 2 1 = some (kept 1) := rd_nI (i := 1) (by omega) (by omega)
      obtain ⟨s1, e1, g1, g2⟩ := M_copies (a := 0) (b := 122) (by omega) (by omega) (by omega) st
      have e1' : f_X8_copies st 0 (61 * (1 + 1)) = some s1 := e1
      rw [if_neg n10, if_pos rfl, r0, b1_some, h1.1]
      rcases h1.2 with z | ⟨z1, z2, z3, z4⟩
      · rw [if_pos z, if_pos z]
        exact ⟨_, _, _, _, _, _, _, _, _, _, _, _, rfl, rfl, h, hs, fun _ _ => rfl⟩
      · have l2 : LI P s1 j1Da j1Dr j1Na j1Mo j1Wa j1De := z3.same (fun j hj => by have := g1 j (by omega); rw [Nat.zero_add] at this; exact this)
        have s2 : SN P s1 k1Dy k1Wo k1Ri k1Sz := z4.same (fun j _ hj => by have := g1 j (by omega); rw [Nat.zero_add] at this; exact this)
        rw [z1, if_neg n10, if_neg n10, e1', b1_some, b7_some, b4_some, r40, b1_some, l2.2.1.1, z2]
        exact ⟨_, _, _, _, _, _, _, _, _, _, _, _, rfl, rfl, l2, s2, fun j hj => g2 j (by omega)⟩
  · rw [t]
    exact ⟨_, _, _, _, _, _, _, _, _, _, _, _, rfl, rfl, h, hs, fun _ _ => rfl⟩
end E7
section E8
variable {By tape : Nat → Int32} {Le taped : Int32}
theorem e_feed (h : TP By tape Le taped) (x : Int32) : ∃ r By' Le' tape' taped', f_X7_feed By Le x = some (r, By', Le') ∧ f_X8_feed tape taped x = some (r, tape', taped') ∧ TP By' tape' Le' taped' := by
  have h' := h
  obtain ⟨n, hn, rfl, rfl, h3⟩ := h
  unfold f_X7_feed f_X8_feed
  rw [X_within x 0 127 rfl rfl, M_in x 0 127 rfl rfl, b1_some, b1_some]
  rcases tb_cases x 0 127 with ⟨t, -⟩ | ⟨t, -⟩
  · obtain ⟨k, -, hk, rfl⟩ := tb_nI (lo := 0) (hi := 127) t
    rw [t, if_neg n10, if_neg n10]
    by_cases c : n = 160
    · subst c
      rw [if_neg (by decide), if_pos (by rfl)]
      exact ⟨_, _, _, _, _, rfl, rfl, h'⟩
    · have l6 : nI n < 160 := nI_lt (b := 160) (by omega) (by omega)
      have q6 : ¬ nI n = 160 := fun e => c ((nI_eq (b := 160) (by omega) (by omega)).mp e)
      rw [if_pos l6, if_neg q6, wr_nI (by omega) (by omega), b1_some, wr_nI (by omega) (by omega), b1_some, nI_1]
      refine ⟨_, _, _, _, _, rfl, rfl, ⟨n + 1, by omega, rfl, rfl, fun i hi => ?_⟩⟩
      by_cases ci : i = n
      · subst ci; rw [upd_s, upd_s]; exact ⟨rfl, k, hk, rfl⟩
      · rw [upd_n ci, upd_n ci]; exact h3 i (by omega)
  · rw [t]; exact ⟨_, _, _, _, _, rfl, rfl, h'⟩
theorem e_end (h : TP By tape Le taped) (x : Int32) : ∃ r Le' taped', f_X7_end Le x = some (r, Le') ∧ f_X8_end taped x = some (r, taped') ∧ TP By tape Le' taped' := by
  have h' := h
  obtain ⟨n, hn, rfl, rfl, h3⟩ := h
  unfold f_X7_end f_X8_end
  rw [X_within x 0 n rfl (nI_toInt (by omega)), M_in x 0 n rfl (nI_l64 (by omega)), b1_some]
  rcases tb_cases x 0 n with ⟨t, -⟩ | ⟨t, -⟩
  · obtain ⟨k, -, hk, rfl⟩ := tb_nI (lo := 0) (hi := n) t
    rw [t, if_neg n10]
    exact ⟨_, _, _, rfl, rfl, ⟨k, by omega, rfl, rfl, fun i hi => h3 i (by omega)⟩⟩
  · rw [t]; exact ⟨_, _, _, rfl, rfl, h'⟩
end E8
