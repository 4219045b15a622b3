/-! ===== L2: the text ===== -/
section E21
variable {By tape : Nat → Int32} {n : Nat}
variable {p : Nat} {draft : Nat → Int32} {told hi Dr Ho Dt : Int32} {Na Mo Wa De : Nat → Int32}
theorem X_noName {en st : Nat} {s : Int32} (hs : ¬ s = 1) : f_X3_natureNamed By (nI en) s (nI st) = some (-1) ∧ f_X3_isName_4 By (nI en) s (nI st) = some 0 ∧ f_X3_isName_5 By (nI en) s (nI st) = some 0 := by
  unfold f_X3_natureNamed f_X3_isName_0 f_X3_isName_1 f_X3_isName_2 f_X3_isName_3 f_X3_isName_4 f_X3_isName_5
  simp only [if_neg hs, b1_some, if_pos]
  exact ⟨trivial, trivial, trivial⟩
theorem m10 : (-1 : Int32) < 0 := by decide
theorem nIk4 {k : Nat} (hk : k < 4) : ¬ nI k = -4 ∧ ¬ (4 : Int32) ≤ nI k ∧ ¬ nI k = 5 ∧ ¬ nI k < 0 := by
  refine ⟨nI_ne4 (by omega), nI_ge (b := 4) hk (by omega), fun z => ?_, nI_pos (by omega)⟩
  have := (nI_eq (b := 5) (by omega) (by omega)).mp z
  omega
theorem z_dt (hDt : Dt = 0 ∨ Dt = 1) {q : Prop} [Decidable q] (hq : ¬ q) : (if Dt = 0 then if q then some (1 : Int32) else some 0 else some 1) = some Dt ∧ bz Dt = some Dt := by
  rcases hDt with rfl | rfl
  · rw [if_pos rfl, if_neg hq]; exact ⟨rfl, rfl⟩
  · rw [if_neg n10]; exact ⟨rfl, rfl⟩
theorem line_step (hn : n ≤ 160) (h : ∀ i, i < n → tape i = By i ∧ ∃ c, c ≤ 127 ∧ By i = nI c) {st0 : Nat} (hs : st0 ≤ n) (hs0 : so By n st0 ≠ 0) (hD : DR p draft told hi Dr Na Mo Wa De Ho) (hDt : Dt = 0 ∨ Dt = 1) (va' w : Int32) :
    (∃ c a, 1 ≤ c ∧ c ≤ 6 ∧ (∀ Li Ff Fp va, ∃ i1 i2 i3 i4 i5 i6 i7 i8 i9 i10 i11 i12 i13, f_X3_takeLine By (nI n) Li Ff Fp (nI (tE By n st0)) (nI (so By n st0)) (nI st0) va Dt Ho (nI p) Dr Na Mo Wa De = some (0, i1, nI c, nI a, i2, i3, i4, i5, i6, i7, i8, i9, i10, i11, i12, i13)) ∧ ∃ j1 j2 j3 j4 j5 j6 j7 j8 j9, f_X8_readLine draft (nI p) Dt told hi tape (nI n) (nI (tE By n st0)) (nI st0) (nI (so By n st0)) va' 0 w = some (j1, j2, j3, j4, j5, j6, j7, j8, j9, nI c, nI a)) ∨
    (∃ e p' draft' told' hi' Dr' Na' Mo' Wa' De' Ho' Dt', st0 < e ∧ e ≤ n ∧ (∀ Li Ff Fp va, ∃ s1 s2 v', f_X3_takeLine By (nI n) Li Ff Fp (nI (tE By n st0)) (nI (so By n st0)) (nI st0) va Dt Ho (nI p) Dr Na Mo Wa De = some (1, Li + 1, Ff, Fp, nI e, s1, s2, v', Dt', Ho', nI p', Dr', Na', Mo', Wa', De')) ∧ (∃ b v', f_X8_readLine draft (nI p) Dt told hi tape (nI n) (nI (tE By n st0)) (nI st0) (nI (so By n st0)) va' 0 w = b6 (f_X8_takes tape (nI n) (nI e) b 3 v' 0 w) fun g1 g2 g3 g4 g5 g6 => some (draft', nI p', Dt', told', hi', g1, g2, g3, g4, g5, g6)) ∧ DR p' draft' told' hi' Dr' Na' Mo' Wa' De' Ho' ∧ (Dt' = 0 ∨ Dt' = 1)) := by
  have q0 := tE_b (By := By) hs
  have l4 := so_le (By := By) (n := n) st0
  have hp5 := hD.1
  have h1 : ∀ i, i < n → tape i = By i := fun i hi => (h i hi).1
  have none2 : f_X3_natureNamed By (nI (tE By n st0)) (nI (so By n st0)) (nI st0) = some (-1) → f_X3_isName_4 By (nI (tE By n st0)) (nI (so By n st0)) (nI st0) = some 0 → f_X3_isName_5 By (nI (tE By n st0)) (nI (so By n st0)) (nI st0) = some 0 → (if nI (so By n st0) = 1 then b1 (f_X8_lineNow tape (nI n) (nI (tE By n st0)) (nI st0)) fun r => some r else some (-4)) = some (-4) → (∃ c a, 1 ≤ c ∧ c ≤ 6 ∧ (∀ Li Ff Fp va, ∃ i1 i2 i3 i4 i5 i6 i7 i8 i9 i10 i11 i12 i13, f_X3_takeLine By (nI n) Li Ff Fp (nI (tE By n st0)) (nI (so By n st0)) (nI st0) va Dt Ho (nI p) Dr Na Mo Wa De = some (0, i1, nI c, nI a, i2, i3, i4, i5, i6, i7, i8, i9, i10, i11, i12, i13)) ∧ ∃ j1 j2 j3 j4 j5 j6 j7 j8 j9, f_X8_readLine draft (nI p) Dt told hi tape (nI n) (nI (tE By n st0)) (nI st0) (nI (so By n st0)) va' 0 w = some (j1, j2, j3, j4, j5, j6, j7, j8, j9, nI c, nI a)) := by
    intro x1 x2 x3 x4
    have d2 : ¬ (2 : Int32) ≤ 0 := by decide
    have d20 : ¬ (2 : Int32) = 0 := by decide
    refine ⟨2, st0, by omega, by omega, fun Li Ff Fp va => ?_, ?_⟩
    · unfold f_X3_takeLine f_X3_fail
      rw [x1, b1_some, if_pos m10, x2, b1_some, if_pos rfl, x3, b1_some, if_pos rfl, b3_some, b15_some, if_pos rfl]
      exact ⟨_, _, _, _, _, _, _, _, _, _, _, _, _, rfl⟩
    · unfold f_X8_readLine
      obtain ⟨z1, z2⟩ := z_dt hDt (q := (-4 : Int32) = 5) (by decide)
      rw [x4, b1_some, if_pos rfl, b1_some, needs_no, b2_some, if_neg (by decide), iteS, b1_some, needs_f d20, b2_some, if_neg (by decide), b1_some, needs_f d20, b2_some, z1, b1_some, z2, b1_some, takes_f d2, b6_some, if_neg d2]
      exact ⟨_, _, _, _, _, _, _, _, _, rfl⟩
  by_cases cs : so By n st0 = 1
  · have e1 : nI (so By n st0) = 1 := by rw [cs]; rfl
    have pe := q0.2.2 hs0 (by omega)
    rcases name_both (By := By) (tape := tape) (st := st0) (en := tE By n st0) hn h1 q0.2.1 q0.1 with ⟨k, hk, x1, x2⟩ | ⟨x1, x2, x3⟩ | ⟨x1, x2, x3, x4⟩ | ⟨x1, x2, x3, x4⟩
    · obtain ⟨k1, k2, k3, k4⟩ := nIk4 hk
      by_cases hp : p < 5
      · have hpn : ¬ (5 : Int32) ≤ nI p := nI_ge (b := 5) hp (by omega)
        obtain ⟨z1, z2⟩ := z_dt hDt (q := nI k = 5) k3
        have eM : f_X8_readLine draft (nI p) Dt told hi tape (nI n) (nI (tE By n st0)) (nI st0) (nI (so By n st0)) va' 0 w = mL tape (nI n) (nI (tE By n st0)) (nI st0) (nI (so By n st0)) va' w draft (nI p) told hi Dt (nI k) := by
          unfold f_X8_readLine
          rw [e1, if_pos rfl, x2, b1_some, b1_some, if_neg k1, b1_some, needs_ok, b2_some, if_neg k2, if_neg hpn, b1_some, needs_ok, b2_some, if_neg k3, b1_some, needs_ok, b2_some, z1, b1_some, z2, b1_some]
          rfl
        rw [eM]
        rcases person_both hn h (e0 := tE By n st0) q0.2.1 hp hk hD (nI st0) (nI (so By n st0)) va' w Dt with ⟨c, a, c1, c2, hx, d, q, t, y, g1, g2, g3, g4, hm⟩ | ⟨e, draft', Na', Mo', Wa', b1', b2', hx, hm, hd⟩
        · left
          refine ⟨c, a, c1, c2, fun Li Ff Fp va => ?_, ?_⟩
          · obtain ⟨j1, j2, j3, j4, j5, j6, j7, j8, hj⟩ := hx Ff Fp 1 (nI st0) va
            unfold f_X3_takeLine
            rw [e1, x1, b1_some, if_neg k4, hj, b11_some, b15_some, if_pos rfl]
            exact ⟨_, _, _, _, _, _, _, _, _, _, _, _, _, rfl⟩
          · rw [hm]; exact ⟨_, _, _, _, _, _, _, _, _, rfl⟩
        · right
          refine ⟨e, p + 1, draft', told, hi, Dr, Na', Mo', Wa', De, Ho, Dt, by omega, b2', fun Li Ff Fp va => ?_, hm, hd, hDt⟩
          obtain ⟨s1, s2, v', hj⟩ := hx Ff Fp 1 (nI st0) va
          unfold f_X3_takeLine
          rw [e1, x1, b1_some, if_neg k4, hj, b11_some, b15_some, if_neg n10]
          exact ⟨_, _, _, rfl⟩
      · left
        have e5 : p = 5 := by omega
        subst e5
        have d5 : ¬ (5 : Int32) ≤ 0 := by decide
        have d50 : ¬ (5 : Int32) = 0 := by decide
        refine ⟨5, st0, by omega, by omega, fun Li Ff Fp va => ?_, ?_⟩
        · unfold f_X3_takeLine f_X3_takePerson f_X3_fail
          rw [e1, x1, b1_some, if_neg k4, if_neg (by decide), b3_some]
          exact ⟨_, _, _, _, _, _, _, _, _, _, _, _, _, rfl⟩
        · unfold f_X8_readLine
          obtain ⟨z1, z2⟩ := z_dt hDt (q := nI k = 5) k3
          rw [e1, if_pos rfl, x2, b1_some, b1_some, if_neg k1, b1_some, needs_ok, b2_some, if_neg k2, if_pos (by decide), b1_some, needs_no, b2_some, if_neg k3, b1_some, needs_f d50, b2_some, z1, b1_some, z2, b1_some, takes_f d5, b6_some, if_neg d5]
          exact ⟨_, _, _, _, _, _, _, _, _, rfl⟩
    · obtain ⟨z1, z2⟩ := z_dt hDt (q := (4 : Int32) = 5) (by decide)
      have eM : f_X8_readLine draft (nI p) Dt told hi tape (nI n) (nI (tE By n st0)) (nI st0) (nI (so By n st0)) va' 0 w = mL tape (nI n) (nI (tE By n st0)) (nI st0) (nI (so By n st0)) va' w draft (nI p) told hi Dt 4 := by
        unfold f_X8_readLine
        rw [e1, if_pos rfl, x3, b1_some, b1_some, if_neg (by decide), b1_some, needs_ok, b2_some, if_pos (by decide), b1_some, needs_ok, b2_some, if_neg (by decide), b1_some, needs_ok, b2_some, z1, b1_some, z2, b1_some]
        rfl
      rw [eM]
      rcases owes_both hn h (e0 := tE By n st0) q0.2.1 hD (nI st0) (nI (so By n st0)) va' w Dt with ⟨c, a, c1, c2, hx, d, q, t, y, g1, g2, g3, g4, hm⟩ | ⟨e, draft', told', hi', Ho', De', b1', b2', hx, hm, hd⟩
      · left
        refine ⟨c, a, c1, c2, fun Li Ff Fp va => ?_, ?_⟩
        · obtain ⟨j1, j2, j3, j4, j5, j6, hj⟩ := hx Ff Fp va
          unfold f_X3_takeLine
          rw [e1, x1, b1_some, if_pos m10, x2, b1_some, if_neg n10, hj, b9_some, b15_some, if_pos rfl]
          exact ⟨_, _, _, _, _, _, _, _, _, _, _, _, _, rfl⟩
        · rw [hm]; exact ⟨_, _, _, _, _, _, _, _, _, rfl⟩
      · right
        refine ⟨e, p, draft', told', hi', Dr, Na, Mo, Wa, De', Ho', Dt, by omega, b2', fun Li Ff Fp va => ?_, hm, hd, hDt⟩
        obtain ⟨s1, s2, v', hj⟩ := hx Ff Fp va
        unfold f_X3_takeLine
        rw [e1, x1, b1_some, if_pos m10, x2, b1_some, if_neg n10, hj, b9_some, b15_some, if_neg n10]
        exact ⟨_, _, _, rfl⟩
    · rcases hDt with rfl | rfl
      · have eM : f_X8_readLine draft (nI p) 0 told hi tape (nI n) (nI (tE By n st0)) (nI st0) (nI (so By n st0)) va' 0 w = mL tape (nI n) (nI (tE By n st0)) (nI st0) (nI (so By n st0)) va' w draft (nI p) told hi 1 5 := by
          unfold f_X8_readLine
          rw [e1, if_pos rfl, x4, b1_some, b1_some, if_neg (by decide), b1_some, needs_ok, b2_some, if_pos (by decide), b1_some, needs_ok, b2_some, if_pos rfl, if_pos rfl, b1_some, needs_ok, b2_some, if_pos rfl, if_pos rfl, b1_some]
          rfl
        rw [eM]
        rcases dry_both hn h (e0 := tE By n st0) q0.2.1 hD (nI st0) (nI (so By n st0)) va' w 1 with ⟨c, a, c1, c2, hx, d, q, t, y, g1, g2, g3, g4, hm⟩ | ⟨e, draft', Dr', b1', b2', hx, hm, hd⟩
        · left
          refine ⟨c, a, c1, c2, fun Li Ff Fp va => ?_, ?_⟩
          · obtain ⟨j1, j2, j3, j4, j5, j6, hj⟩ := hx Ff Fp 1 (nI st0) va
            unfold f_X3_takeLine
            rw [e1, x1, b1_some, if_pos m10, x2, b1_some, if_pos rfl, x3, b1_some, if_neg n10, hj, b9_some, b15_some, if_pos rfl]
            exact ⟨_, _, _, _, _, _, _, _, _, _, _, _, _, rfl⟩
          · rw [hm]; exact ⟨_, _, _, _, _, _, _, _, _, rfl⟩
        · right
          refine ⟨e, p, draft', told, hi, Dr', Na, Mo, Wa, De, Ho, 1, by omega, b2', fun Li Ff Fp va => ?_, hm, hd, Or.inr rfl⟩
          obtain ⟨s1, s2, v', hj⟩ := hx Ff Fp 1 (nI st0) va
          unfold f_X3_takeLine
          rw [e1, x1, b1_some, if_pos m10, x2, b1_some, if_pos rfl, x3, b1_some, if_neg n10, hj, b9_some, b15_some, if_neg n10]
          exact ⟨_, _, _, rfl⟩
      · left
        have d4 : ¬ (4 : Int32) ≤ 0 := by decide
        refine ⟨4, st0, by omega, by omega, fun Li Ff Fp va => ?_, ?_⟩
        · unfold f_X3_takeLine f_X3_takeDry f_X3_fail
          rw [e1, x1, b1_some, if_pos m10, x2, b1_some, if_pos rfl, x3, b1_some, if_neg n10, if_neg n10, b3_some]
          exact ⟨_, _, _, _, _, _, _, _, _, _, _, _, _, rfl⟩
        · unfold f_X8_readLine
          rw [e1, if_pos rfl, x4, b1_some, b1_some, if_neg (by decide), b1_some, needs_ok, b2_some, if_pos (by decide), b1_some, needs_ok, b2_some, if_pos rfl, if_neg n10, b1_some, needs_no, b2_some, if_neg n10, b1_some]
          show ∃ j1 j2 j3 j4 j5 j6 j7 j8 j9, (b1 (some 1) _) = some (j1, j2, j3, j4, j5, j6, j7, j8, j9, nI 4, nI st0)
          rw [b1_some, takes_f d4, b6_some, if_neg d4]
          exact ⟨_, _, _, _, _, _, _, _, _, rfl⟩
    · left
      exact none2 (by rw [e1]; exact x1) (by rw [e1]; exact x2) (by rw [e1]; exact x3) (by rw [e1, if_pos rfl, x4, b1_some])
  · left
    have e1 : ¬ nI (so By n st0) = 1 := so_ne (j := 1) l4 (by omega) cs
    obtain ⟨x1, x2, x3⟩ := X_noName (By := By) (en := tE By n st0) (st := st0) e1
    exact none2 x1 x2 x3 (by rw [if_neg e1])
theorem L44_0 {m : Nat} {r Li Ff Fp Pl So St Va Dt Ho Pe Dr : Int32} {Na Mo Wa De : Nat → Int32} : f_X3_takeAll_L44 By (nI n) (m + 1) 0 r Li Ff Fp Pl So St Va Dt Ho Pe Dr Na Mo Wa De = some (0, Li, Ff, Fp, Pl, So, St, Va, Dt, Ho, Pe, Dr, Na, Mo, Wa, De) := by
  rw [f_X3_takeAll_L44]
  by_cases c : nI n ≤ r
  · rw [if_pos c]
  · rw [if_neg c, if_pos rfl]
theorem L20_f {m : Nat} {mm pe hd td hh po bg so' va f w : Int32} {d : Nat → Int32} (hf : ¬ f = 0) : f_X8_text_L20 tape (nI n) (m + 1) mm d pe hd td hh po bg so' va f w = some (mm, d, pe, hd, td, hh, po, bg, so', va, f, w) := by
  rw [f_X8_text_L20, if_neg hf]
theorem L44_e {m : Nat} {r Li Ff Fp Pl St Va Dt Ho Pe Dr : Int32} {Na Mo Wa De : Nat → Int32} : f_X3_takeAll_L44 By (nI n) (m + 1) 1 r Li Ff Fp Pl (nI 0) St Va Dt Ho Pe Dr Na Mo Wa De = some (1, Li, Ff, Fp, Pl, nI 0, St, Va, Dt, Ho, Pe, Dr, Na, Mo, Wa, De) := by
  rw [f_X3_takeAll_L44]
  by_cases c : nI n ≤ r
  · rw [if_pos c]
  · rw [if_neg c, if_neg n10, if_pos nI_0]
theorem L20_e {m : Nat} {mm pe hd td hh po bg va w : Int32} {d : Nat → Int32} : f_X8_text_L20 tape (nI n) (m + 1) mm d pe hd td hh po bg (nI 0) va 0 w = some (mm, d, pe, hd, td, hh, po, bg, nI 0, va, 0, w) := by
  rw [f_X8_text_L20, if_pos rfl, if_pos nI_0]
theorem text_loop (hn : n ≤ 160) (h : ∀ i, i < n → tape i = By i ∧ ∃ c, c ≤ 127 ∧ By i = nI c) : ∀ (d st0 r p : Nat) (draft : Nat → Int32) (told hi Dr Ho Dt Li Ff Fp va va' w : Int32) (Na Mo Wa De : Nat → Int32) (m m2 : Nat), n - st0 ≤ d → st0 ≤ n → r ≤ st0 → d + 1 < m → d + 1 < m2 → DR p draft told hi Dr Na Mo Wa De Ho → (Dt = 0 ∨ Dt = 1) →
    (∃ c a, 1 ≤ c ∧ c ≤ 6 ∧ (∃ i1 i2 i3 i4 i5 i6 i7 i8 i9 i10 i11 i12 i13, f_X3_takeAll_L44 By (nI n) m 1 (nI r) Li Ff Fp (nI (tE By n st0)) (nI (so By n st0)) (nI st0) va Dt Ho (nI p) Dr Na Mo Wa De = some (0, i1, nI c, nI a, i2, i3, i4, i5, i6, i7, i8, i9, i10, i11, i12, i13)) ∧ ∃ j0 j1 j2 j3 j4 j5 j6 j7 j8 j9, f_X8_text_L20 tape (nI n) m2 Li draft (nI p) Dt told hi (nI (tE By n st0)) (nI st0) (nI (so By n st0)) va' 0 w = some (j0, j1, j2, j3, j4, j5, j6, j7, j8, j9, nI c, nI a)) ∨
    (∃ Li' p' draft' told' hi' Dr' Na' Mo' Wa' De' Ho' Dt', (∃ i1 i2 i3 i4, f_X3_takeAll_L44 By (nI n) m 1 (nI r) Li Ff Fp (nI (tE By n st0)) (nI (so By n st0)) (nI st0) va Dt Ho (nI p) Dr Na Mo Wa De = some (1, Li', Ff, Fp, i1, i2, i3, i4, Dt', Ho', nI p', Dr', Na', Mo', Wa', De')) ∧ (∃ j1 j2 j3, f_X8_text_L20 tape (nI n) m2 Li draft (nI p) Dt told hi (nI (tE By n st0)) (nI st0) (nI (so By n st0)) va' 0 w = some (Li', draft', nI p', Dt', told', hi', j1, nI n, j2, j3, 0, w)) ∧ DR p' draft' told' hi' Dr' Na' Mo' Wa' De' Ho') := by
  intro d
  induction d with
  | zero =>
    intro st0 r p draft told hi Dr Ho Dt Li Ff Fp va va' w Na Mo Wa De m m2 hd hs hr hm hm2 hD hDt
    obtain ⟨m, rfl⟩ : ∃ t, m = t + 1 := ⟨m - 1, by omega⟩
    obtain ⟨m2, rfl⟩ : ∃ t, m2 = t + 1 := ⟨m2 - 1, by omega⟩
    have es : st0 = n := by omega
    subst es
    have e0 : so By st0 st0 = 0 := so_end.mpr (Nat.le_refl _)
    right
    rw [e0, L44_e, L20_e]
    exact ⟨Li, p, draft, told, hi, Dr, Na, Mo, Wa, De, Ho, Dt, ⟨_, _, _, _, rfl⟩, ⟨_, _, _, rfl⟩, hD⟩
  | succ d ih =>
    intro st0 r p draft told hi Dr Ho Dt Li Ff Fp va va' w Na Mo Wa De m m2 hd hs hr hm hm2 hD hDt
    obtain ⟨m, rfl⟩ : ∃ t, m = t + 1 := ⟨m - 1, by omega⟩
    obtain ⟨m2, rfl⟩ : ∃ t, m2 = t + 1 := ⟨m2 - 1, by omega⟩
    by_cases e0 : so By n st0 = 0
    · have es : st0 = n := by have := so_end.mp e0; omega
      subst es
      right
      rw [e0, L44_e, L20_e]
      exact ⟨Li, p, draft, told, hi, Dr, Na, Mo, Wa, De, Ho, Dt, ⟨_, _, _, _, rfl⟩, ⟨_, _, _, rfl⟩, hD⟩
    · have hlt : st0 < n := by
        have := (so_end (By := By) (n := n) (pos := st0))
        omega
      have l4 := so_le (By := By) (n := n) st0
      have e0' : ¬ nI (so By n st0) = 0 := so_ne (j := 0) l4 (by omega) e0
      obtain ⟨m, rfl⟩ : ∃ t, m = t + 1 := ⟨m - 1, by omega⟩
      obtain ⟨m2, rfl⟩ : ∃ t, m2 = t + 1 := ⟨m2 - 1, by omega⟩
      rw [f_X3_takeAll_L44, if_neg (nI_ge (by omega) (by omega)), if_neg n10, if_neg e0', f_X8_text_L20, if_pos rfl, if_neg e0']
      rcases line_step hn h hs e0 hD hDt va' w with ⟨c, a, c1, c2, hx, j1, j2, j3, j4, j5, j6, j7, j8, j9, hm'⟩ | ⟨e, p', draft', told', hi', Dr', Na', Mo', Wa', De', Ho', Dt', b1', b2', hx, ⟨b, v', hm'⟩, hd', hDt'⟩
      · left
        obtain ⟨i1, i2, i3, i4, i5, i6, i7, i8, i9, i10, i11, i12, i13, hj⟩ := hx Li Ff Fp va
        obtain ⟨hc1, hc0⟩ := nIc c1 c2
        refine ⟨c, a, c1, c2, ?_, ?_⟩
        · rw [hj, b16_some, if_pos rfl, L44_0]
          exact ⟨_, _, _, _, _, _, _, _, _, _, _, _, _, rfl⟩
        · rw [hm', b11_some, L20_f hc0]
          exact ⟨_, _, _, _, _, _, _, _, _, _, rfl⟩
      · obtain ⟨s1, s2, v'', hj⟩ := hx Li Ff Fp va
        have s3 := tS_b (By := By) b2'
        rw [hj, b16_some, if_neg n10, hm']
        rcases X_next (By := By) hn b2' Ff Fp with ⟨hb, x1, x2, x3, ex⟩ | ⟨hb, ex⟩
        · left
          obtain ⟨y1, y2, y3, y4, ey⟩ := (M_takes hn h b2' b 3 v' w).1 hb
          refine ⟨1, tS By n e, by omega, by omega, ?_, ?_⟩
          · rw [ex, b6_some, if_pos rfl, L44_0]
            exact ⟨_, _, _, _, _, _, _, _, _, _, _, _, _, rfl⟩
          · rw [ey, b6_some, b11_some, L20_f n10]
            exact ⟨_, _, _, _, _, _, _, _, _, _, rfl⟩
        · have ey := (M_takes hn h b2' b 3 v' w).2 hb
          rw [ex, b6_some, if_neg n10, ey, b6_some, b11_some, nI_1]
          exact ih (tS By n e) (r + 1) p' draft' told' hi' Dr' Ho' Dt' (Li + 1) Ff Fp _ _ w Na' Mo' Wa' De' (m + 1) (m2 + 1) (by omega) s3.2 (by omega) (by omega) (by omega) hd' hDt'
theorem M_first_L : ∀ (d i : Nat) (f : Nat → Int32) (m : Nat), i + d = 61 → d < m → (∀ j, j < i → f j = 0) → ∃ f', f_X8_firstDraft_L2 m (nI i) f = some f' ∧ ∀ j, j < 61 → f' j = 0 := by
  intro d
  induction d with
  | zero =>
    intro i f m hi hm hf
    obtain ⟨m, rfl⟩ : ∃ t, m = t + 1 := ⟨m - 1, by omega⟩
    have e : (61 : Int32) = nI 61 := rfl
    rw [f_X8_firstDraft_L2, e, if_pos (nI_le (by omega) (by omega))]
    exact ⟨f, rfl, fun j hj => hf j (by omega)⟩
  | succ d ih =>
    intro i f m hi hm hf
    obtain ⟨m, rfl⟩ : ∃ t, m = t + 1 := ⟨m - 1, by omega⟩
    have e : (61 : Int32) = nI 61 := rfl
    rw [f_X8_firstDraft_L2, e, if_neg (nI_ge (by omega) (by omega)), wr_nI (by omega) (by omega), b1_some, nI_1]
    refine ih (i + 1) _ m (by omega) (by omega) (fun j hj => ?_)
    by_cases c : j = i
    · subst c; exact upd_s
    · rw [upd_n c]; exact hf j (by omega)
theorem M_keepD_L {dr : Nat → Int32} : ∀ (d i : Nat) (st : Nat → Int32) (m : Nat), i + d = 61 → d < m → (∀ j, j < i → st j = dr j) → ∃ st', f_X8_keepDraft_L2 dr m (nI i) st = some st' ∧ ∀ j, j < 61 → st' j = dr j := by
  intro d
  induction d with
  | zero =>
    intro i st m hi hm h
    obtain ⟨m, rfl⟩ : ∃ t, m = t + 1 := ⟨m - 1, by omega⟩
    have e : (61 : Int32) = nI 61 := rfl
    rw [f_X8_keepDraft_L2, e, if_pos (nI_le (by omega) (by omega))]
    exact ⟨st, rfl, fun j hj => h j (by omega)⟩
  | succ d ih =>
    intro i st m hi hm h
    obtain ⟨m, rfl⟩ : ∃ t, m = t + 1 := ⟨m - 1, by omega⟩
    have e : (61 : Int32) = nI 61 := rfl
    rw [f_X8_keepDraft_L2, e, if_neg (nI_ge (by omega) (by omega)), rd_nI (by omega) (by omega), b1_some, wr_nI (by omega) (by omega), b1_some, nI_1]
    refine ih (i + 1) _ m (by omega) (by omega) (fun j hj => ?_)
    by_cases c : j = i
    · subst c; exact upd_s
    · rw [upd_n c]; exact h j (by omega)
theorem M_keepD (st kept dr : Nat → Int32) (pe : Int32) : ∃ st' kept', f_X8_keepDraft st kept dr pe = some (st', kept', pe) ∧ (∀ j, j < 61 → st' j = dr j) ∧ kept' 0 = 0 ∧ kept' 1 = 0 := by
  obtain ⟨s1, e1, h1⟩ := M_keepD_L (dr := dr) 61 0 st 400 (by omega) (by omega) (fun j hj => absurd hj (by omega))
  rw [nI_0] at e1
  have w0 : ∀ (f : Nat → Int32) v, wr f 2 0 v = some (upd f 0 v) := fun f v => wr_nI (i := 0) (by omega) (by omega)
  have w1 : ∀ (f : Nat → Int32) v, wr f 2 1 v = some (upd f 1 v) := fun f v => wr_nI (i := 1) (by omega) (by omega)
  unfold f_X8_keepDraft
  rw [e1, b1_some, w0, b1_some, w1, b1_some]
  exact ⟨_, _, rfl, h1, by rw [upd_n (by omega), upd_s], upd_s⟩
theorem X_keep0 (a b : Int32) : f_X7_text_L66 400 0 a b = some (0, 0) := by
  have s2 : ∀ m a b, f_X7_text_L66 (m + 1) 2 a b = some (a, b) := by
    intro m a b; rw [f_X7_text_L66, if_pos (by decide)]
  have s1 : ∀ m a b, f_X7_text_L66 (m + 2) 1 a b = some (a, 0) := by
    intro m a b
    rw [f_X7_text_L66, if_neg (by decide), if_neg (by decide), if_pos rfl]
    exact s2 m a 0
  have s0 : ∀ m a b, f_X7_text_L66 (m + 3) 0 a b = some (0, 0) := by
    intro m a b
    rw [f_X7_text_L66, if_neg (by decide), if_pos rfl]
    exact s1 m 0 b
  exact s0 397 a b
theorem DR_0 {f : Nat → Int32} (hf : ∀ j, j < 61 → f j = 0) (Na Mo Wa : Nat → Int32) : DR 0 f 0 (-4) 0 Na Mo Wa (fun _ => 0) (-1) := by
  refine ⟨by omega, ⟨hf 40 (by omega), hf 41 (by omega), fun j hj => absurd hj (by omega), fun i hi => hf _ (by omega)⟩, hf 42 (by omega), fun j hj => absurd hj (by omega), fun i _ => ⟨0, by omega, rfl⟩, fun j _ => rfl, ⟨0, by omega, rfl, fun i _ => ?_⟩, Or.inl ⟨rfl, rfl⟩⟩
  rw [Nat.zero_testBit]
  exact ⟨fun z => (by cases z), fun z => absurd rfl z⟩
theorem e_text {P : Nat} {st kept : Nat → Int32} {Da Dr : Int32} {Na Mo Wa De Dy Wo Ri : Nat → Int32} {Sz : Int32} {Le taped i0Ke i1Ke j0Pe j0Da j0Dr j1Pe j1Da j1Dr : Int32} {j0Na j0Mo j0Wa j0De j1Na j1Mo j1Wa j1De k0Dy k0Wo k0Ri k1Dy k1Wo k1Ri : Nat → Int32} {k0Sz k1Sz : Int32}
    (hT : TP By tape Le taped) (hL : LI P st Da Dr Na Mo Wa De) (hS : SN P st Dy Wo Ri Sz) (h0 : IM P st 61 (kept 0) i0Ke j0Pe j0Da j0Dr j0Na j0Mo j0Wa j0De k0Dy k0Wo k0Ri k0Sz) (h1 : IM P st 122 (kept 1) i1Ke j1Pe j1Da j1Dr j1Na j1Mo j1Wa j1De k1Dy k1Wo k1Ri k1Sz) (rVa : Int32) (dNa dMo dWa : Nat → Int32) (dr : Nat → Int32) (bg so' va w : Int32) :
    ∃ r Tf P' Da' Dr' Na' Mo' Wa' De' x1 x2 x3 x4 x5 x6 x7 x8 x9 x10 x11 x12 x13 x14 x15 x16 Sz' i0' i1' st' kept' y1 y2 y3 y4 y5 y6 y7 y8 y9 y10, f_X7_text (nI P) Da Dr Na Mo Wa De By Le rVa dNa dMo dWa Sz i0Ke i1Ke = some (r, Tf, nI P', Da', Dr', Na', Mo', Wa', De', 0, x1, x2, x3, x4, x5, x6, x7, x8, x9, x10, x11, x12, x13, x14, x15, x16, Sz', i0', i1') ∧ f_X8_text st kept (nI P) dr tape taped bg so' va w = some (r, st', kept', nI P', y1, y2, y3, y4, y5, 0, y6, y7, y8, y9, Tf, y10) ∧ LI P' st' Da' Dr' Na' Mo' Wa' De' ∧ SN P' st' Dy Wo Ri Sz' ∧ IM P' st' 61 (kept' 0) i0' j0Pe j0Da j0Dr j0Na j0Mo j0Wa j0De k0Dy k0Wo k0Ri k0Sz ∧ IM P' st' 122 (kept' 1) i1' j1Pe j1Da j1Dr j1Na j1Mo j1Wa j1De k1Dy k1Wo k1Ri k1Sz := by
  obtain ⟨n, hn, rfl, rfl, h⟩ := hT
  obtain ⟨f, ef, hf⟩ := M_first_L 61 0 dr 400 (by omega) (by omega) (fun j hj => absurd hj (by omega))
  rw [nI_0] at ef
  have s0 := tS_b (By := By) (n := n) (pos := 0) (by omega)
  unfold f_X7_text f_X8_text f_X3_takeAll f_X1_empty f_X8_firstDraft
  rw [b4_some, ef, b1_some, b5_some]
  rcases X_next (By := By) hn (show 0 ≤ n by omega) 0 0 with ⟨hb, a, b, c, ex⟩ | ⟨hb, ex⟩
  · obtain ⟨y1, y2, y3, y4, ey⟩ := (M_takes hn h (show 0 ≤ n by omega) bg so' va w).1 hb
    rw [nI_0] at ex ey
    rw [ex, b6_some, L44_0, b16_some, if_pos rfl, b17_some, if_pos rfl, ey, b6_some, L20_f n10, b12_some, if_neg n10, b2_some, if_neg (by decide)]
    exact ⟨_, _, _, _, _, _, _, _, _, _, _, _, _, _, _, _, _, _, _, _, _, _, _, _, _, _, _, _, _, _, _, _, _, _, _, _, _, _, _, _, rfl, rfl, hL, hS, h0, h1⟩
  · have ey := (M_takes hn h (show 0 ≤ n by omega) bg so' va w).2 hb
    rw [nI_0] at ex ey
    rw [ex, b6_some, ey, b6_some]
    rcases text_loop hn h n (tS By n 0) 0 0 f 0 (-4) 0 (-1) 0 0 0 0 rVa (if so By n (tS By n 0) = 2 then tV By n (tS By n 0) else va) w dNa dMo dWa (fun _ => 0) 400 400 (by omega) s0.2 (by omega) (by omega) (by omega) (DR_0 hf dNa dMo dWa) (Or.inl rfl) with ⟨c, a, c1, c2, ⟨i1, i2, i3, i4, i5, i6, i7, i8, i9, i10, i11, i12, i13, hx⟩, j0, j1, j2, j3, j4, j5, j6, j7, j8, j9, hm⟩ | ⟨Li', p', draft', told', hi', Dr', Na', Mo', Wa', De', Ho', Dt', ⟨i1, i2, i3, i4, hx⟩, ⟨j1, j2, j3, hm⟩, hd⟩
    · obtain ⟨hc1, hc0⟩ := nIc c1 c2
      rw [nI_0] at hx hm
      rw [hx, b16_some, if_pos rfl, b17_some, if_pos rfl, hm, b12_some, if_neg hc0, b2_some, if_neg hc1]
      exact ⟨_, _, _, _, _, _, _, _, _, _, _, _, _, _, _, _, _, _, _, _, _, _, _, _, _, _, _, _, _, _, _, _, _, _, _, _, _, _, _, _, rfl, rfl, hL, hS, h0, h1⟩
    · rw [nI_0] at hx hm
      rw [hx, b16_some, if_neg n10, hm, b12_some, if_pos rfl]
      unfold f_X3_everyoneIsThere f_X3_fail
      have hp5 := hd.1
      have eq : (Ho' < nI p') ↔ ¬ nI p' ≤ hi' := by
        rcases hd.2.2.2.2.2.2.2 with ⟨rfl, rfl⟩ | ⟨x, hx, rfl, rfl⟩
        · constructor
          · intro _ z
            have := Int32.le_iff_toInt_le.mp z
            rw [nI_toInt (by omega)] at this
            have e : (-4 : Int32).toInt = -4 := rfl
            omega
          · intro _
            refine Int32.lt_iff_toInt_lt.mpr ?_
            rw [nI_toInt (by omega)]
            have e : (-1 : Int32).toInt = -1 := rfl
            omega
        · exact (Int32.not_le).symm
      by_cases c : Ho' < nI p'
      · rw [if_pos c, b3_some, if_neg n10, b17_some, if_neg n10, if_neg (eq.mp c), b1_some, needs_ok, b2_some, b2_some, if_pos (by decide), X_keep0]
        obtain ⟨st', kept', ek, hk, k0, k1⟩ := M_keepD st kept draft' (nI p')
        unfold f_X1_become
        rw [b7_some, b2_some, ek, b3_some]
        refine ⟨_, _, _, _, _, _, _, _, _, _, _, _, _, _, _, _, _, _, _, _, _, _, _, _, _, _, _, _, _, _, _, _, _, _, _, _, _, _, _, _, rfl, rfl, ⟨hp5, hd.2.1.same hp5 (fun j hj => hk j (by omega)), hd.2.2.2.1, hd.2.2.2.2.1, hd.2.2.2.2.2.1⟩, ⟨0, by omega, rfl, by rw [hk 42 (by omega)]; exact hd.2.2.1, fun i hi => absurd hi (by omega)⟩, ⟨k0, Or.inl rfl⟩, ⟨k1, Or.inl rfl⟩⟩
      · have c' : nI p' ≤ hi' := by
          by_cases z : nI p' ≤ hi'
          · exact z
          · exact absurd (eq.mpr z) c
        rw [if_neg c, b3_some, if_pos rfl, b3_some, if_pos rfl, b17_some, if_pos rfl, if_pos c', b1_some, needs_no, b2_some, b2_some, if_neg (by decide)]
        exact ⟨_, _, _, _, _, _, _, _, _, _, _, _, _, _, _, _, _, _, _, _, _, _, _, _, _, _, _, _, _, _, _, _, _, _, _, _, _, _, _, _, rfl, rfl, hL, hS, h0, h1⟩
end E21
