/-! ===== L2: numbers, semicolons, words ===== -/
section E18
variable {By tape : Nat → Int32} {n : Nat}
theorem i_val (v a : Int32) : v * 10 + a - 48 = 10 * v + a - 48 := by rw [Int32.mul_comm]
theorem X_val_L (hn : n ≤ 160) {b : Nat} : ∀ (d pos : Nat) (v : Int32) (m : Nat), b ≤ pos → pos + d = n → d < m → rn By n 2 d pos ≤ b + 2 → f_X3_takeNumber_L37 By (nI (rn By n 2 d pos)) m (nI pos) v = some (vl By n b d pos v) := by
  intro d
  induction d with
  | zero =>
    intro pos v m hb hp hm hl
    obtain ⟨m, rfl⟩ : ∃ t, m = t + 1 := ⟨m - 1, by omega⟩
    rw [f_X3_takeNumber_L37, rn, if_pos (Int32.le_refl _)]; rfl
  | succ d ih =>
    intro pos v m hb hp hm hl
    obtain ⟨m, rfl⟩ : ∃ t, m = t + 1 := ⟨m - 1, by omega⟩
    rw [rn] at hl ⊢
    rw [f_X3_takeNumber_L37, vl]
    by_cases c : so By n pos = 2
    · rw [if_pos c] at hl ⊢
      have hb2 := rn_b (By := By) (n := n) (k := 2) d (pos + 1)
      rw [if_neg (nI_ge (by omega) (by omega)), rd_nI (by omega) (by omega), b1_some, nI_1, if_pos c, if_pos (show pos - b < 2 by omega), i_val]
      exact ih (pos + 1) _ m (by omega) (by omega) (by omega) hl
    · rw [if_neg c] at hl ⊢
      rw [if_neg c, if_pos (Int32.le_refl _)]
theorem X_val (hn : n ≤ 160) {st : Nat} (hs : st ≤ n) (h2 : so By n st = 2) (hb : ¬ bad By n st) : f_X3_takeNumber_L37 By (nI (tE By n st)) 400 (nI st) 0 = some (tV By n st) := by
  have eE : tE By n st = rn By n 2 (n - st) st := by unfold tE; rw [if_neg (by omega), if_pos h2]
  have hb' : tE By n st - st ≤ 2 := by unfold bad at hb; omega
  rw [eE] at hb' ⊢
  exact X_val_L hn (n - st) st 0 400 (Nat.le_refl _) (by omega) (by omega) (by omega)
theorem so_ne {s j : Nat} (hs : s ≤ 4) (hj : j ≤ 4) (h : s ≠ j) : ¬ nI s = nI j := fun z => h ((nI_eq (by omega) (by omega)).mp z)
theorem num_both (hn : n ≤ 160) {pos : Nat} (hp : pos ≤ n) {lo hi : Nat} (hh : hi ≤ 99) (hlo : lo ≤ 99) :
    (bad By n (tS By n pos) ∧ ∀ Ff Fp va, ∃ j1 j2 j3 j4, f_X3_takeNumber By (nI n) Ff Fp (nI pos) va (nI lo) (nI hi) = some (0, 1, nI (tS By n pos), j1, j2, j3, j4)) ∨
    (¬ bad By n (tS By n pos) ∧ ∃ c, (c = 2 ∨ c = 3) ∧ (∀ Ff Fp va, ∃ j1 j2 j3 j4, f_X3_takeNumber By (nI n) Ff Fp (nI pos) va (nI lo) (nI hi) = some (0, nI c, nI (tS By n pos), j1, j2, j3, j4)) ∧ ∀ va w, f_X8_looked (nI (tS By n pos)) (nI (so By n (tS By n pos))) (if so By n (tS By n pos) = 2 then tV By n (tS By n pos) else va) 0 w (nI lo) (nI hi) = some (0, nI c, nI (tS By n pos))) ∨
    (¬ bad By n (tS By n pos) ∧ so By n (tS By n pos) = 2 ∧ ∃ v, lo ≤ v ∧ v ≤ hi ∧ tV By n (tS By n pos) = nI v ∧ (∀ Ff Fp va, f_X3_takeNumber By (nI n) Ff Fp (nI pos) va (nI lo) (nI hi) = some (1, Ff, Fp, nI (tE By n (tS By n pos)), 2, nI (tS By n pos), nI v)) ∧ ∀ w, f_X8_looked (nI (tS By n pos)) 2 (nI v) 0 w (nI lo) (nI hi) = some (nI v, 0, w)) := by
  have hs := tS_b (By := By) hp
  have l4 := so_le (By := By) (n := n) (tS By n pos)
  by_cases hb : bad By n (tS By n pos)
  · left
    refine ⟨hb, fun Ff Fp va => ?_⟩
    rcases X_next (By := By) hn hp Ff Fp with ⟨-, a, b, c, e⟩ | ⟨z, -⟩
    · unfold f_X3_takeNumber
      rw [e, b6_some, if_pos rfl]
      exact ⟨_, _, _, _, rfl⟩
    · exact absurd hb z
  · right
    have en : ∀ Ff Fp, f_X3_next By (nI n) Ff Fp (nI pos) = some (1, Ff, Fp, nI (tE By n (tS By n pos)), nI (so By n (tS By n pos)), nI (tS By n pos)) := by
      intro Ff Fp
      rcases X_next (By := By) hn hp Ff Fp with ⟨z, -⟩ | ⟨-, e⟩
      · exact absurd z hb
      · exact e
    by_cases c2 : so By n (tS By n pos) = 2
    · have ev := X_val hn hs.2 c2 hb
      have e2 : nI (so By n (tS By n pos)) = 2 := by rw [c2]; rfl
      rcases tb_cases (tV By n (tS By n pos)) lo hi with ⟨t, -⟩ | ⟨t, -⟩
      · right
        obtain ⟨v, h1, h2, hv⟩ := tb_nI (lo := lo) (hi := hi) t
        refine ⟨hb, c2, v, h1, h2, hv, fun Ff Fp va => ?_, fun w => ?_⟩
        · unfold f_X3_takeNumber
          rw [en, b6_some, if_neg n10, e2, if_pos rfl, ev, b1_some, X_within _ lo hi (nI_toInt (by omega)) (nI_toInt (by omega)), b1_some, t, if_neg n10, hv]
        · unfold f_X8_looked
          rw [hv] at t
          rw [if_pos rfl, if_pos rfl, b1_some, needs_ok, b2_some, b2_some, if_pos rfl, M_in _ lo hi (nI_l64 (by omega)) (nI_l64 (by omega)), b1_some, t, needs_ok, b2_some, b2_some, if_pos rfl]
      · left
        refine ⟨hb, 3, Or.inr rfl, fun Ff Fp va => ?_, fun va w => ?_⟩
        · unfold f_X3_takeNumber f_X3_fail
          rw [en, b6_some, if_neg n10, e2, if_pos rfl, ev, b1_some, X_within _ lo hi (nI_toInt (by omega)) (nI_toInt (by omega)), b1_some, t, if_pos rfl, b3_some, if_pos rfl]
          exact ⟨_, _, _, _, rfl⟩
        · unfold f_X8_looked
          rw [if_pos c2, e2, if_pos rfl, if_pos rfl, b1_some, needs_ok, b2_some, b2_some, if_pos rfl, M_in _ lo hi (nI_l64 (by omega)) (nI_l64 (by omega)), b1_some, t, needs_no, b2_some, b2_some, if_neg (by decide)]; rfl
    · left
      have e2 : ¬ nI (so By n (tS By n pos)) = 2 := so_ne (j := 2) l4 (by omega) c2
      refine ⟨hb, 2, Or.inl rfl, fun Ff Fp va => ?_, fun va w => ?_⟩
      · unfold f_X3_takeNumber f_X3_fail
        rw [en, b6_some, if_neg n10, if_neg e2, b3_some]
        exact ⟨_, _, _, _, rfl⟩
      · unfold f_X8_looked
        rw [if_pos rfl, if_neg e2, b1_some, needs_no, b2_some, b2_some, if_neg (by decide), b2_some, if_neg (by decide)]; rfl
theorem semi_both (hn : n ≤ 160) {pos : Nat} (hp : pos ≤ n) :
    (bad By n (tS By n pos) ∧ ∀ Ff Fp, ∃ j1 j2 j3, f_X3_takeSemicolon By (nI n) Ff Fp (nI pos) = some (0, 1, nI (tS By n pos), j1, j2, j3)) ∨
    (¬ bad By n (tS By n pos) ∧ so By n (tS By n pos) ≠ 3 ∧ ∀ Ff Fp, ∃ j1 j2 j3, f_X3_takeSemicolon By (nI n) Ff Fp (nI pos) = some (0, 2, nI (tS By n pos), j1, j2, j3)) ∨
    (¬ bad By n (tS By n pos) ∧ so By n (tS By n pos) = 3 ∧ ∀ Ff Fp, f_X3_takeSemicolon By (nI n) Ff Fp (nI pos) = some (1, Ff, Fp, nI (tE By n (tS By n pos)), 3, nI (tS By n pos))) := by
  have l4 := so_le (By := By) (n := n) (tS By n pos)
  by_cases hb : bad By n (tS By n pos)
  · left
    refine ⟨hb, fun Ff Fp => ?_⟩
    rcases X_next (By := By) hn hp Ff Fp with ⟨-, a, b, c, e⟩ | ⟨z, -⟩
    · unfold f_X3_takeSemicolon
      rw [e, b6_some, if_pos rfl]
      exact ⟨_, _, _, rfl⟩
    · exact absurd hb z
  · right
    have en : ∀ Ff Fp, f_X3_next By (nI n) Ff Fp (nI pos) = some (1, Ff, Fp, nI (tE By n (tS By n pos)), nI (so By n (tS By n pos)), nI (tS By n pos)) := by
      intro Ff Fp
      rcases X_next (By := By) hn hp Ff Fp with ⟨z, -⟩ | ⟨-, e⟩
      · exact absurd z hb
      · exact e
    unfold f_X3_takeSemicolon f_X3_fail
    by_cases c3 : so By n (tS By n pos) = 3
    · right
      have e3 : nI (so By n (tS By n pos)) = 3 := by rw [c3]; rfl
      refine ⟨hb, c3, fun Ff Fp => ?_⟩
      rw [en, b6_some, if_neg n10, e3, if_pos rfl]
    · left
      have e3 : ¬ nI (so By n (tS By n pos)) = 3 := so_ne (j := 3) l4 (by omega) c3
      refine ⟨hb, c3, fun Ff Fp => ?_⟩
      rw [en, b6_some, if_neg n10, if_neg e3, b3_some, if_pos rfl]
      exact ⟨_, _, _, rfl⟩
/-! the words -/
def Mt (By : Nat → Int32) (st en len : Nat) (ch : Nat → Int32) : Prop := en = st + len ∧ ∀ j, j < len → By (st + j) = ch j
theorem nm_L {st len : Nat} {ch : Nat → Int32} (hl : st + len ≤ 160) (hlen : len ≤ 6) {L : Nat → Int32 → Option (Int32 ⊕ Unit)} (hL : ∀ m v, L (m + 1) v = if nI len ≤ v then some (Sum.inr ()) else b1 (rd By 160 (nI st + v)) fun a => b1 (rd ch len v) fun c => if a = c then L m (v + 1) else some (Sum.inl 0)) : ∀ (d i m : Nat), i + d = len → d < m → (L m (nI i) = some (Sum.inr ()) ∧ ∀ j, i ≤ j → j < len → By (st + j) = ch j) ∨ (L m (nI i) = some (Sum.inl 0) ∧ ∃ j, j < len ∧ By (st + j) ≠ ch j) := by
  intro d
  induction d with
  | zero =>
    intro i m hi hm
    obtain ⟨m, rfl⟩ : ∃ t, m = t + 1 := ⟨m - 1, by omega⟩
    left
    rw [hL, if_pos (nI_le (by omega) (by omega))]
    exact ⟨rfl, fun j h1 h2 => absurd h2 (by omega)⟩
  | succ d ih =>
    intro i m hi hm
    obtain ⟨m, rfl⟩ : ∃ t, m = t + 1 := ⟨m - 1, by omega⟩
    rw [hL, if_neg (nI_ge (by omega) (by omega)), nI_add, rd_nI (by omega) (by omega), b1_some, rd_nI (by omega) (by omega), b1_some, nI_1]
    by_cases c : By (st + i) = ch i
    · rw [if_pos c]
      rcases ih (i + 1) m (by omega) (by omega) with ⟨h1, h2⟩ | h
      · left
        refine ⟨h1, fun j a b => ?_⟩
        by_cases cj : j = i
        · subst cj; exact c
        · exact h2 j (by omega) b
      · exact Or.inr h
    · rw [if_neg c]
      exact Or.inr ⟨rfl, i, by omega, c⟩
theorem nm_eq {st en len : Nat} {ch : Nat → Int32} (hen : en ≤ 160) (hse : st ≤ en) (hlen : len ≤ 6) {L : Nat → Int32 → Option (Int32 ⊕ Unit)} (hL : ∀ m v, L (m + 1) v = if nI len ≤ v then some (Sum.inr ()) else b1 (rd By 160 (nI st + v)) fun a => b1 (rd ch len v) fun c => if a = c then L m (v + 1) else some (Sum.inl 0)) : ((if nI en - nI st = nI len then bs1 (L 400 0) fun (_ : Unit) => some (1 : Int32) else some 0) = some 1 ∧ Mt By st en len ch) ∨ ((if nI en - nI st = nI len then bs1 (L 400 0) fun (_ : Unit) => some (1 : Int32) else some 0) = some 0 ∧ ¬ Mt By st en len ch) := by
  rw [pk_sub hse]
  by_cases c : en - st = len
  · rw [if_pos (by rw [c])]
    rcases nm_L (st := st) (len := len) (ch := ch) (by omega) hlen hL len 0 400 (by omega) (by omega) with ⟨h1, h2⟩ | ⟨h1, j, h2, h3⟩
    · rw [nI_0] at h1
      rw [h1]; exact Or.inl ⟨rfl, by omega, fun j hj => h2 j (by omega) hj⟩
    · rw [nI_0] at h1
      rw [h1]; exact Or.inr ⟨rfl, fun z => h3 (z.2 j h2)⟩
  · rw [if_neg (fun z => c ((nI_eq (by omega) (by omega)).mp z))]
    exact Or.inr ⟨rfl, fun z => c (by have := z.1; omega)⟩
variable {st en : Nat}
theorem X_nm0 (hen : en ≤ 160) (hse : st ≤ en) : (f_X3_isName_0 By (nI en) 1 (nI st) = some 1 ∧ Mt By st en 5 (chS 0)) ∨ (f_X3_isName_0 By (nI en) 1 (nI st) = some 0 ∧ ¬ Mt By st en 5 (chS 0)) := by
  unfold f_X3_isName_0; rw [if_pos rfl]
  exact nm_eq (len := 5) hen hse (by omega) (L := f_X3_isName_0_L28 By (nI st)) (fun m v => by rw [f_X3_isName_0_L28]; rfl)
theorem X_nm1 (hen : en ≤ 160) (hse : st ≤ en) : (f_X3_isName_1 By (nI en) 1 (nI st) = some 1 ∧ Mt By st en 5 (chS 1)) ∨ (f_X3_isName_1 By (nI en) 1 (nI st) = some 0 ∧ ¬ Mt By st en 5 (chS 1)) := by
  unfold f_X3_isName_1; rw [if_pos rfl]
  exact nm_eq (len := 5) hen hse (by omega) (L := f_X3_isName_1_L28 By (nI st)) (fun m v => by rw [f_X3_isName_1_L28]; rfl)
theorem X_nm2 (hen : en ≤ 160) (hse : st ≤ en) : (f_X3_isName_2 By (nI en) 1 (nI st) = some 1 ∧ Mt By st en 6 (chS 2)) ∨ (f_X3_isName_2 By (nI en) 1 (nI st) = some 0 ∧ ¬ Mt By st en 6 (chS 2)) := by
  unfold f_X3_isName_2; rw [if_pos rfl]
  exact nm_eq (len := 6) hen hse (by omega) (L := f_X3_isName_2_L28 By (nI st)) (fun m v => by rw [f_X3_isName_2_L28]; rfl)
theorem X_nm3 (hen : en ≤ 160) (hse : st ≤ en) : (f_X3_isName_3 By (nI en) 1 (nI st) = some 1 ∧ Mt By st en 5 (chS 3)) ∨ (f_X3_isName_3 By (nI en) 1 (nI st) = some 0 ∧ ¬ Mt By st en 5 (chS 3)) := by
  unfold f_X3_isName_3; rw [if_pos rfl]
  exact nm_eq (len := 5) hen hse (by omega) (L := f_X3_isName_3_L28 By (nI st)) (fun m v => by rw [f_X3_isName_3_L28]; rfl)
theorem X_nm4 (hen : en ≤ 160) (hse : st ≤ en) : (f_X3_isName_4 By (nI en) 1 (nI st) = some 1 ∧ Mt By st en 4 (chS 4)) ∨ (f_X3_isName_4 By (nI en) 1 (nI st) = some 0 ∧ ¬ Mt By st en 4 (chS 4)) := by
  unfold f_X3_isName_4; rw [if_pos rfl]
  exact nm_eq (len := 4) hen hse (by omega) (L := f_X3_isName_4_L28 By (nI st)) (fun m v => by rw [f_X3_isName_4_L28]; rfl)
theorem X_nm5 (hen : en ≤ 160) (hse : st ≤ en) : (f_X3_isName_5 By (nI en) 1 (nI st) = some 1 ∧ Mt By st en 3 (chS 5)) ∨ (f_X3_isName_5 By (nI en) 1 (nI st) = some 0 ∧ ¬ Mt By st en 3 (chS 5)) := by
  unfold f_X3_isName_5; rw [if_pos rfl]
  exact nm_eq (len := 3) hen hse (by omega) (L := f_X3_isName_5_L28 By (nI st)) (fun m v => by rw [f_X3_isName_5_L28]; rfl)
/-! the reference's words -/
theorem M_is (hn : n ≤ 160) (h : ∀ i, i < n → tape i = By i) (hen : en ≤ n) (hse : st ≤ en) {len : Nat} (hlen : len ≤ 6) (a b c : Int32) : f_X8_is tape (nI n) (nI en) (nI st) (nI len) a b c = some (if en = st + len ∧ bA By n st = a ∧ bA By n (st + 1) = b ∧ bA By n (st + 2) = c then 1 else 0) := by
  unfold f_X8_is
  have e2 : nI st + 2 = nI (st + 2) := by
    have e : (2 : Int32) = nI 2 := rfl
    rw [e, nI_add]
  rw [pk_sub hse, M_byteAt hn (by omega) h, b1_some, nI_1, M_byteAt hn (by omega) h, b1_some, e2, M_byteAt hn (by omega) h, b1_some]
  by_cases c0 : en - st = len
  · rw [if_pos (by rw [c0])]
    by_cases c1 : bA By n st = a
    · rw [if_pos c1]
      by_cases c2 : bA By n (st + 1) = b
      · rw [if_pos c2]
        by_cases c3 : bA By n (st + 2) = c
        · rw [if_pos c3, if_pos ⟨by omega, c1, c2, c3⟩]
        · rw [if_neg c3, if_neg (fun z => c3 z.2.2.2)]
      · rw [if_neg c2, if_neg (fun z => c2 z.2.2.1)]
    · rw [if_neg c1, if_neg (fun z => c1 z.2.1)]
  · rw [if_neg (fun z => c0 ((nI_eq (by omega) (by omega)).mp z)), if_neg (fun z => c0 (by have := z.1; omega))]
theorem M_ends (hn : n ≤ 160) (h : ∀ i, i < n → tape i = By i) (hst : st ≤ 160) (a b c : Int32) : f_X8_ends tape (nI n) (nI st) a b c = some (if bA By n (st + 3) = a ∧ (b = 0 ∨ bA By n (st + 4) = b) ∧ (c = 0 ∨ bA By n (st + 5) = c) then 1 else 0) := by
  unfold f_X8_ends f_X8_ends_B32
  have e3 : nI st + 3 = nI (st + 3) := by
    have e : (3 : Int32) = nI 3 := rfl
    rw [e, nI_add]
  have e4 : nI st + 4 = nI (st + 4) := by
    have e : (4 : Int32) = nI 4 := rfl
    rw [e, nI_add]
  have e5 : nI st + 5 = nI (st + 5) := by
    have e : (5 : Int32) = nI 5 := rfl
    rw [e, nI_add]
  rw [e3, e4, e5, M_byteAt hn (by omega) h, b1_some, M_byteAt hn (by omega) h, b1_some, M_byteAt hn (by omega) h, b1_some]
  by_cases c0 : bA By n (st + 3) = a
  · rw [if_pos c0]
    have last : ∀ q : Prop, q → (if c = 0 then some (1 : Int32) else if bA By n (st + 5) = c then some 1 else some 0) = some (if bA By n (st + 3) = a ∧ (b = 0 ∨ bA By n (st + 4) = b) ∧ (c = 0 ∨ bA By n (st + 5) = c) then 1 else 0) ∨ ¬ (b = 0 ∨ bA By n (st + 4) = b) := by
      intro q _
      by_cases cb : b = 0 ∨ bA By n (st + 4) = b
      · left
        by_cases c1 : c = 0
        · rw [if_pos c1, if_pos ⟨c0, cb, Or.inl c1⟩]
        · rw [if_neg c1]
          by_cases c2 : bA By n (st + 5) = c
          · rw [if_pos c2, if_pos ⟨c0, cb, Or.inr c2⟩]
          · rw [if_neg c2, if_neg (fun z => by rcases z.2.2 with q | q; exact c1 q; exact c2 q)]
      · exact Or.inr cb
    by_cases c1 : b = 0
    · rw [if_pos c1]
      rcases last True trivial with z | z
      · exact z
      · exact absurd (Or.inl c1) z
    · rw [if_neg c1]
      by_cases c2 : bA By n (st + 4) = b
      · rw [if_pos c2]
        rcases last True trivial with z | z
        · exact z
        · exact absurd (Or.inr c2) z
      · rw [if_neg c2, if_neg (fun z => by rcases z.2.1 with q | q; exact c1 q; exact c2 q)]
  · rw [if_neg c0, if_neg (fun z => c0 z.1)]
theorem bA_in {j len : Nat} (hen : en ≤ n) (he : en = st + len) (hj : j < len) : bA By n (st + j) = By (st + j) := by
  unfold bA; rw [if_neg (by omega)]
theorem bA_in0 {len : Nat} (hen : en ≤ n) (he : en = st + len) (hj : 0 < len) : bA By n st = By st := by
  unfold bA; rw [if_neg (by omega)]
theorem Mt_0 (hen : en ≤ n) : Mt By st en 5 (chS 0) ↔ (en = st + 5 ∧ bA By n st = 112 ∧ bA By n (st + 1) = 108 ∧ bA By n (st + 2) = 97) ∧ (bA By n (st + 3) = 105 ∧ ((110 : Int32) = 0 ∨ bA By n (st + 4) = 110) ∧ ((0 : Int32) = 0 ∨ bA By n (st + 5) = 0)) := by
  unfold Mt
  constructor
  · rintro ⟨he, hj⟩
    have e0 := bA_in0 (By := By) (n := n) (st := st) hen he (by omega)
    have h0 := hj 0 (by omega)
    rw [Nat.add_zero] at h0
    have e1 := bA_in (By := By) (n := n) (st := st) (j := 1) hen he (by omega)
    have h1 := hj 1 (by omega)
    have e2 := bA_in (By := By) (n := n) (st := st) (j := 2) hen he (by omega)
    have h2 := hj 2 (by omega)
    have e3 := bA_in (By := By) (n := n) (st := st) (j := 3) hen he (by omega)
    have h3 := hj 3 (by omega)
    have e4 := bA_in (By := By) (n := n) (st := st) (j := 4) hen he (by omega)
    have h4 := hj 4 (by omega)
    exact ⟨⟨he, e0.trans h0, e1.trans h1, e2.trans h2⟩, ⟨e3.trans h3, Or.inr (e4.trans h4), Or.inl rfl⟩⟩
  · rintro ⟨⟨he, b0, b1, b2⟩, b3, b4, b5⟩
    have e0 := bA_in0 (By := By) (n := n) (st := st) hen he (by omega)
    have e1 := bA_in (By := By) (n := n) (st := st) (j := 1) hen he (by omega)
    have e2 := bA_in (By := By) (n := n) (st := st) (j := 2) hen he (by omega)
    have e3 := bA_in (By := By) (n := n) (st := st) (j := 3) hen he (by omega)
    have e4 := bA_in (By := By) (n := n) (st := st) (j := 4) hen he (by omega)
    refine ⟨he, fun j hj => ?_⟩
    match j, hj with
    | 0, _ => rw [Nat.add_zero, ← e0]; exact b0
    | 1, _ => rw [← e1]; exact b1
    | 2, _ => rw [← e2]; exact b2
    | 3, _ => rw [← e3]; exact b3
    | 4, _ =>
      rcases b4 with z | z
      · exact absurd z (by decide)
      · rw [← e4]; exact z
theorem Mt_1 (hen : en ≤ n) : Mt By st en 5 (chS 1) ↔ (en = st + 5 ∧ bA By n st = 119 ∧ bA By n (st + 1) = 105 ∧ bA By n (st + 2) = 100) ∧ (bA By n (st + 3) = 111 ∧ ((119 : Int32) = 0 ∨ bA By n (st + 4) = 119) ∧ ((0 : Int32) = 0 ∨ bA By n (st + 5) = 0)) := by
  unfold Mt
  constructor
  · rintro ⟨he, hj⟩
    have e0 := bA_in0 (By := By) (n := n) (st := st) hen he (by omega)
    have h0 := hj 0 (by omega)
    rw [Nat.add_zero] at h0
    have e1 := bA_in (By := By) (n := n) (st := st) (j := 1) hen he (by omega)
    have h1 := hj 1 (by omega)
    have e2 := bA_in (By := By) (n := n) (st := st) (j := 2) hen he (by omega)
    have h2 := hj 2 (by omega)
    have e3 := bA_in (By := By) (n := n) (st := st) (j := 3) hen he (by omega)
    have h3 := hj 3 (by omega)
    have e4 := bA_in (By := By) (n := n) (st := st) (j := 4) hen he (by omega)
    have h4 := hj 4 (by omega)
    exact ⟨⟨he, e0.trans h0, e1.trans h1, e2.trans h2⟩, ⟨e3.trans h3, Or.inr (e4.trans h4), Or.inl rfl⟩⟩
  · rintro ⟨⟨he, b0, b1, b2⟩, b3, b4, b5⟩
    have e0 := bA_in0 (By := By) (n := n) (st := st) hen he (by omega)
    have e1 := bA_in (By := By) (n := n) (st := st) (j := 1) hen he (by omega)
    have e2 := bA_in (By := By) (n := n) (st := st) (j := 2) hen he (by omega)
    have e3 := bA_in (By := By) (n := n) (st := st) (j := 3) hen he (by omega)
    have e4 := bA_in (By := By) (n := n) (st := st) (j := 4) hen he (by omega)
    refine ⟨he, fun j hj => ?_⟩
    match j, hj with
    | 0, _ => rw [Nat.add_zero, ← e0]; exact b0
    | 1, _ => rw [← e1]; exact b1
    | 2, _ => rw [← e2]; exact b2
    | 3, _ => rw [← e3]; exact b3
    | 4, _ =>
      rcases b4 with z | z
      · exact absurd z (by decide)
      · rw [← e4]; exact z
theorem Mt_2 (hen : en ≤ n) : Mt By st en 6 (chS 2) ↔ (en = st + 6 ∧ bA By n st = 115 ∧ bA By n (st + 1) = 113 ∧ bA By n (st + 2) = 117) ∧ (bA By n (st + 3) = 105 ∧ ((114 : Int32) = 0 ∨ bA By n (st + 4) = 114) ∧ ((101 : Int32) = 0 ∨ bA By n (st + 5) = 101)) := by
  unfold Mt
  constructor
  · rintro ⟨he, hj⟩
    have e0 := bA_in0 (By := By) (n := n) (st := st) hen he (by omega)
    have h0 := hj 0 (by omega)
    rw [Nat.add_zero] at h0
    have e1 := bA_in (By := By) (n := n) (st := st) (j := 1) hen he (by omega)
    have h1 := hj 1 (by omega)
    have e2 := bA_in (By := By) (n := n) (st := st) (j := 2) hen he (by omega)
    have h2 := hj 2 (by omega)
    have e3 := bA_in (By := By) (n := n) (st := st) (j := 3) hen he (by omega)
    have h3 := hj 3 (by omega)
    have e4 := bA_in (By := By) (n := n) (st := st) (j := 4) hen he (by omega)
    have h4 := hj 4 (by omega)
    have e5 := bA_in (By := By) (n := n) (st := st) (j := 5) hen he (by omega)
    have h5 := hj 5 (by omega)
    exact ⟨⟨he, e0.trans h0, e1.trans h1, e2.trans h2⟩, ⟨e3.trans h3, Or.inr (e4.trans h4), Or.inr (e5.trans h5)⟩⟩
  · rintro ⟨⟨he, b0, b1, b2⟩, b3, b4, b5⟩
    have e0 := bA_in0 (By := By) (n := n) (st := st) hen he (by omega)
    have e1 := bA_in (By := By) (n := n) (st := st) (j := 1) hen he (by omega)
    have e2 := bA_in (By := By) (n := n) (st := st) (j := 2) hen he (by omega)
    have e3 := bA_in (By := By) (n := n) (st := st) (j := 3) hen he (by omega)
    have e4 := bA_in (By := By) (n := n) (st := st) (j := 4) hen he (by omega)
    have e5 := bA_in (By := By) (n := n) (st := st) (j := 5) hen he (by omega)
    refine ⟨he, fun j hj => ?_⟩
    match j, hj with
    | 0, _ => rw [Nat.add_zero, ← e0]; exact b0
    | 1, _ => rw [← e1]; exact b1
    | 2, _ => rw [← e2]; exact b2
    | 3, _ => rw [← e3]; exact b3
    | 4, _ =>
      rcases b4 with z | z
      · exact absurd z (by decide)
      · rw [← e4]; exact z
    | 5, _ =>
      rcases b5 with z | z
      · exact absurd z (by decide)
      · rw [← e5]; exact z
theorem Mt_3 (hen : en ≤ n) : Mt By st en 5 (chS 3) ↔ (en = st + 5 ∧ bA By n st = 109 ∧ bA By n (st + 1) = 105 ∧ bA By n (st + 2) = 115) ∧ (bA By n (st + 3) = 101 ∧ ((114 : Int32) = 0 ∨ bA By n (st + 4) = 114) ∧ ((0 : Int32) = 0 ∨ bA By n (st + 5) = 0)) := by
  unfold Mt
  constructor
  · rintro ⟨he, hj⟩
    have e0 := bA_in0 (By := By) (n := n) (st := st) hen he (by omega)
    have h0 := hj 0 (by omega)
    rw [Nat.add_zero] at h0
    have e1 := bA_in (By := By) (n := n) (st := st) (j := 1) hen he (by omega)
    have h1 := hj 1 (by omega)
    have e2 := bA_in (By := By) (n := n) (st := st) (j := 2) hen he (by omega)
    have h2 := hj 2 (by omega)
    have e3 := bA_in (By := By) (n := n) (st := st) (j := 3) hen he (by omega)
    have h3 := hj 3 (by omega)
    have e4 := bA_in (By := By) (n := n) (st := st) (j := 4) hen he (by omega)
    have h4 := hj 4 (by omega)
    exact ⟨⟨he, e0.trans h0, e1.trans h1, e2.trans h2⟩, ⟨e3.trans h3, Or.inr (e4.trans h4), Or.inl rfl⟩⟩
  · rintro ⟨⟨he, b0, b1, b2⟩, b3, b4, b5⟩
    have e0 := bA_in0 (By := By) (n := n) (st := st) hen he (by omega)
    have e1 := bA_in (By := By) (n := n) (st := st) (j := 1) hen he (by omega)
    have e2 := bA_in (By := By) (n := n) (st := st) (j := 2) hen he (by omega)
    have e3 := bA_in (By := By) (n := n) (st := st) (j := 3) hen he (by omega)
    have e4 := bA_in (By := By) (n := n) (st := st) (j := 4) hen he (by omega)
    refine ⟨he, fun j hj => ?_⟩
    match j, hj with
    | 0, _ => rw [Nat.add_zero, ← e0]; exact b0
    | 1, _ => rw [← e1]; exact b1
    | 2, _ => rw [← e2]; exact b2
    | 3, _ => rw [← e3]; exact b3
    | 4, _ =>
      rcases b4 with z | z
      · exact absurd z (by decide)
      · rw [← e4]; exact z
theorem Mt_4 (hen : en ≤ n) : Mt By st en 4 (chS 4) ↔ (en = st + 4 ∧ bA By n st = 111 ∧ bA By n (st + 1) = 119 ∧ bA By n (st + 2) = 101) ∧ (bA By n (st + 3) = 115 ∧ ((0 : Int32) = 0 ∨ bA By n (st + 4) = 0) ∧ ((0 : Int32) = 0 ∨ bA By n (st + 5) = 0)) := by
  unfold Mt
  constructor
  · rintro ⟨he, hj⟩
    have e0 := bA_in0 (By := By) (n := n) (st := st) hen he (by omega)
    have h0 := hj 0 (by omega)
    rw [Nat.add_zero] at h0
    have e1 := bA_in (By := By) (n := n) (st := st) (j := 1) hen he (by omega)
    have h1 := hj 1 (by omega)
    have e2 := bA_in (By := By) (n := n) (st := st) (j := 2) hen he (by omega)
    have h2 := hj 2 (by omega)
    have e3 := bA_in (By := By) (n := n) (st := st) (j := 3) hen he (by omega)
    have h3 := hj 3 (by omega)
    exact ⟨⟨he, e0.trans h0, e1.trans h1, e2.trans h2⟩, ⟨e3.trans h3, Or.inl rfl, Or.inl rfl⟩⟩
  · rintro ⟨⟨he, b0, b1, b2⟩, b3, b4, b5⟩
    have e0 := bA_in0 (By := By) (n := n) (st := st) hen he (by omega)
    have e1 := bA_in (By := By) (n := n) (st := st) (j := 1) hen he (by omega)
    have e2 := bA_in (By := By) (n := n) (st := st) (j := 2) hen he (by omega)
    have e3 := bA_in (By := By) (n := n) (st := st) (j := 3) hen he (by omega)
    refine ⟨he, fun j hj => ?_⟩
    match j, hj with
    | 0, _ => rw [Nat.add_zero, ← e0]; exact b0
    | 1, _ => rw [← e1]; exact b1
    | 2, _ => rw [← e2]; exact b2
    | 3, _ => rw [← e3]; exact b3
theorem Mt_5 (hen : en ≤ n) : Mt By st en 3 (chS 5) ↔ (en = st + 3 ∧ bA By n st = 100 ∧ bA By n (st + 1) = 114 ∧ bA By n (st + 2) = 121) := by
  unfold Mt
  constructor
  · rintro ⟨he, hj⟩
    have e0 := bA_in0 (By := By) (n := n) (st := st) hen he (by omega)
    have h0 := hj 0 (by omega)
    rw [Nat.add_zero] at h0
    have e1 := bA_in (By := By) (n := n) (st := st) (j := 1) hen he (by omega)
    have h1 := hj 1 (by omega)
    have e2 := bA_in (By := By) (n := n) (st := st) (j := 2) hen he (by omega)
    have h2 := hj 2 (by omega)
    exact ⟨he, e0.trans h0, e1.trans h1, e2.trans h2⟩
  · rintro ⟨he, b0, b1, b2⟩
    have e0 := bA_in0 (By := By) (n := n) (st := st) hen he (by omega)
    have e1 := bA_in (By := By) (n := n) (st := st) (j := 1) hen he (by omega)
    have e2 := bA_in (By := By) (n := n) (st := st) (j := 2) hen he (by omega)
    refine ⟨he, fun j hj => ?_⟩
    match j, hj with
    | 0, _ => rw [Nat.add_zero, ← e0]; exact b0
    | 1, _ => rw [← e1]; exact b1
    | 2, _ => rw [← e2]; exact b2
theorem name_both (hn : n ≤ 160) (h : ∀ i, i < n → tape i = By i) (hen : en ≤ n) (hse : st ≤ en) :
    (∃ k, k < 4 ∧ f_X3_natureNamed By (nI en) 1 (nI st) = some (nI k) ∧ f_X8_lineNow tape (nI n) (nI en) (nI st) = some (nI k)) ∨
    (f_X3_natureNamed By (nI en) 1 (nI st) = some (-1) ∧ f_X3_isName_4 By (nI en) 1 (nI st) = some 1 ∧ f_X8_lineNow tape (nI n) (nI en) (nI st) = some 4) ∨
    (f_X3_natureNamed By (nI en) 1 (nI st) = some (-1) ∧ f_X3_isName_4 By (nI en) 1 (nI st) = some 0 ∧ f_X3_isName_5 By (nI en) 1 (nI st) = some 1 ∧ f_X8_lineNow tape (nI n) (nI en) (nI st) = some 5) ∨
    (f_X3_natureNamed By (nI en) 1 (nI st) = some (-1) ∧ f_X3_isName_4 By (nI en) 1 (nI st) = some 0 ∧ f_X3_isName_5 By (nI en) 1 (nI st) = some 0 ∧ f_X8_lineNow tape (nI n) (nI en) (nI st) = some (-4)) := by
  have i0 := M_is (By := By) hn h hen hse (len := 5) (by omega) 112 108 97
  have n0 := M_ends (By := By) (st := st) hn h (by omega) 105 110 0
  have m0 := Mt_0 (By := By) (n := n) (st := st) hen
  have x0 := X_nm0 (By := By) (st := st) (en := en) (by omega) hse
  have l0 : nI 5 = 5 := rfl
  rw [l0] at i0
  have i1 := M_is (By := By) hn h hen hse (len := 5) (by omega) 119 105 100
  have n1 := M_ends (By := By) (st := st) hn h (by omega) 111 119 0
  have m1 := Mt_1 (By := By) (n := n) (st := st) hen
  have x1 := X_nm1 (By := By) (st := st) (en := en) (by omega) hse
  rw [l0] at i1
  have i2 := M_is (By := By) hn h hen hse (len := 6) (by omega) 115 113 117
  have n2 := M_ends (By := By) (st := st) hn h (by omega) 105 114 101
  have m2 := Mt_2 (By := By) (n := n) (st := st) hen
  have x2 := X_nm2 (By := By) (st := st) (en := en) (by omega) hse
  have l2 : nI 6 = 6 := rfl
  rw [l2] at i2
  have i3 := M_is (By := By) hn h hen hse (len := 5) (by omega) 109 105 115
  have n3 := M_ends (By := By) (st := st) hn h (by omega) 101 114 0
  have m3 := Mt_3 (By := By) (n := n) (st := st) hen
  have x3 := X_nm3 (By := By) (st := st) (en := en) (by omega) hse
  rw [l0] at i3
  have i4 := M_is (By := By) hn h hen hse (len := 4) (by omega) 111 119 101
  have n4 := M_ends (By := By) (st := st) hn h (by omega) 115 0 0
  have m4 := Mt_4 (By := By) (n := n) (st := st) hen
  have x4 := X_nm4 (By := By) (st := st) (en := en) (by omega) hse
  have l4 : nI 4 = 4 := rfl
  rw [l4] at i4
  have i5 := M_is (By := By) hn h hen hse (len := 3) (by omega) 100 114 121
  have m5 := Mt_5 (By := By) (n := n) (st := st) hen
  have x5 := X_nm5 (By := By) (st := st) (en := en) (by omega) hse
  have l5 : nI 3 = 3 := rfl
  rw [l5] at i5
  have y0 : (Mt By st en 5 (chS 0) → f_X8_lineNow tape (nI n) (nI en) (nI st) = some 0) ∧ (¬ Mt By st en 5 (chS 0) → f_X8_lineNow tape (nI n) (nI en) (nI st) = f_X8_lineNow_B28 tape (nI n) (nI en) (nI st)) := by
    unfold f_X8_lineNow
    rw [i0, b1_some, n0, b1_some]
    constructor
    · intro z
      have z := m0.mp z
      rw [if_pos z.1, if_neg n10, if_pos z.2, if_neg n10]
    · intro z
      by_cases q1 : en = st + 5 ∧ bA By n st = 112 ∧ bA By n (st + 1) = 108 ∧ bA By n (st + 2) = 97
      · rw [if_pos q1, if_neg n10, if_neg (fun q2 => z (m0.mpr ⟨q1, q2⟩)), if_pos rfl]
      · rw [if_neg q1, if_pos rfl]
  have y1 : (Mt By st en 5 (chS 1) → f_X8_lineNow_B28 tape (nI n) (nI en) (nI st) = some 1) ∧ (¬ Mt By st en 5 (chS 1) → f_X8_lineNow_B28 tape (nI n) (nI en) (nI st) = f_X8_lineNow_B56 tape (nI n) (nI en) (nI st)) := by
    unfold f_X8_lineNow_B28
    rw [i1, b1_some, n1, b1_some]
    constructor
    · intro z
      have z := m1.mp z
      rw [if_pos z.1, if_neg n10, if_pos z.2, if_neg n10]
    · intro z
      by_cases q1 : en = st + 5 ∧ bA By n st = 119 ∧ bA By n (st + 1) = 105 ∧ bA By n (st + 2) = 100
      · rw [if_pos q1, if_neg n10, if_neg (fun q2 => z (m1.mpr ⟨q1, q2⟩)), if_pos rfl]
      · rw [if_neg q1, if_pos rfl]
  have y2 : (Mt By st en 6 (chS 2) → f_X8_lineNow_B56 tape (nI n) (nI en) (nI st) = some 2) ∧ (¬ Mt By st en 6 (chS 2) → f_X8_lineNow_B56 tape (nI n) (nI en) (nI st) = f_X8_lineNow_B86 tape (nI n) (nI en) (nI st)) := by
    unfold f_X8_lineNow_B56
    rw [i2, b1_some, n2, b1_some]
    constructor
    · intro z
      have z := m2.mp z
      rw [if_pos z.1, if_neg n10, if_pos z.2, if_neg n10]
    · intro z
      by_cases q1 : en = st + 6 ∧ bA By n st = 115 ∧ bA By n (st + 1) = 113 ∧ bA By n (st + 2) = 117
      · rw [if_pos q1, if_neg n10, if_neg (fun q2 => z (m2.mpr ⟨q1, q2⟩)), if_pos rfl]
      · rw [if_neg q1, if_pos rfl]
  have y3 : (Mt By st en 5 (chS 3) → f_X8_lineNow_B86 tape (nI n) (nI en) (nI st) = some 3) ∧ (¬ Mt By st en 5 (chS 3) → f_X8_lineNow_B86 tape (nI n) (nI en) (nI st) = f_X8_lineNow_B114 tape (nI n) (nI en) (nI st)) := by
    unfold f_X8_lineNow_B86
    rw [i3, b1_some, n3, b1_some]
    constructor
    · intro z
      have z := m3.mp z
      rw [if_pos z.1, if_neg n10, if_pos z.2, if_neg n10]
    · intro z
      by_cases q1 : en = st + 5 ∧ bA By n st = 109 ∧ bA By n (st + 1) = 105 ∧ bA By n (st + 2) = 115
      · rw [if_pos q1, if_neg n10, if_neg (fun q2 => z (m3.mpr ⟨q1, q2⟩)), if_pos rfl]
      · rw [if_neg q1, if_pos rfl]
  have y4 : (Mt By st en 4 (chS 4) → f_X8_lineNow_B114 tape (nI n) (nI en) (nI st) = some 4) ∧ (¬ Mt By st en 4 (chS 4) → f_X8_lineNow_B114 tape (nI n) (nI en) (nI st) = f_X8_lineNow_B143 tape (nI n) (nI en) (nI st)) := by
    unfold f_X8_lineNow_B114
    rw [i4, b1_some, n4, b1_some]
    constructor
    · intro z
      have z := m4.mp z
      rw [if_pos z.1, if_neg n10, if_pos z.2, if_neg n10]
    · intro z
      by_cases q1 : en = st + 4 ∧ bA By n st = 111 ∧ bA By n (st + 1) = 119 ∧ bA By n (st + 2) = 101
      · rw [if_pos q1, if_neg n10, if_neg (fun q2 => z (m4.mpr ⟨q1, q2⟩)), if_pos rfl]
      · rw [if_neg q1, if_pos rfl]
  have y5 : (Mt By st en 3 (chS 5) → f_X8_lineNow_B143 tape (nI n) (nI en) (nI st) = some 5) ∧ (¬ Mt By st en 3 (chS 5) → f_X8_lineNow_B143 tape (nI n) (nI en) (nI st) = some (-4)) := by
    unfold f_X8_lineNow_B143
    rw [i5, b1_some]
    constructor
    · intro z
      rw [if_pos (m5.mp z), if_neg n10]
    · intro z
      rw [if_neg (fun q => z (m5.mpr q)), if_pos rfl]
  unfold f_X3_natureNamed
  rcases x0 with ⟨x0, w0⟩ | ⟨x0, w0⟩
  · left
    rw [x0, b1_some, if_neg n10]
    exact ⟨0, by omega, rfl, y0.1 w0⟩
  rw [x0, b1_some, if_pos rfl, y0.2 w0]
  rcases x1 with ⟨x1, w1⟩ | ⟨x1, w1⟩
  · left
    rw [x1, b1_some, if_neg n10]
    exact ⟨1, by omega, rfl, y1.1 w1⟩
  rw [x1, b1_some, if_pos rfl, y1.2 w1]
  rcases x2 with ⟨x2, w2⟩ | ⟨x2, w2⟩
  · left
    rw [x2, b1_some, if_neg n10]
    exact ⟨2, by omega, rfl, y2.1 w2⟩
  rw [x2, b1_some, if_pos rfl, y2.2 w2]
  rcases x3 with ⟨x3, w3⟩ | ⟨x3, w3⟩
  · left
    rw [x3, b1_some, if_neg n10]
    exact ⟨3, by omega, rfl, y3.1 w3⟩
  rw [x3, b1_some, if_pos rfl, y3.2 w3]
  right
  rcases x4 with ⟨x4, w4⟩ | ⟨x4, w4⟩
  · left
    exact ⟨rfl, x4, y4.1 w4⟩
  rw [y4.2 w4]
  right
  rcases x5 with ⟨x5, w5⟩ | ⟨x5, w5⟩
  · left
    exact ⟨rfl, x4, x5, y5.1 w5⟩
  · right
    exact ⟨rfl, x4, x5, y5.2 w5⟩
end E18
