/-! ===== L2: the lines ===== -/
section E19
variable {By tape : Nat → Int32} {n : Nat}
def TO (told : Int32) (De : Nat → Int32) : Prop := ∃ T : Nat, T < 2 ^ 25 ∧ told = nI T ∧ ∀ i, i < 25 → (T.testBit i = true ↔ De i ≠ 0)
def HI (Ho hi : Int32) : Prop := (Ho = -1 ∧ hi = -4) ∨ ∃ h, h < 5 ∧ Ho = nI h ∧ hi = nI h
def DR (p : Nat) (draft : Nat → Int32) (told hi Dr : Int32) (Na Mo Wa De : Nat → Int32) (Ho : Int32) : Prop := p ≤ 5 ∧ RR p draft 0 Dr Na Mo Wa De ∧ draft 42 = 0 ∧ NaOK p Na ∧ DeOK De ∧ DG De ∧ TO told De ∧ HI Ho hi
theorem nI_or {a b : Nat} (ha : a < 2 ^ 32) (hb : b < 2 ^ 32) : nI a ||| nI b = nI (a ||| b) := by
  apply Int32.toBitVec_inj.mp
  apply BitVec.eq_of_toNat_eq
  have h := Nat.or_lt_two_pow ha hb
  rw [pk_tn h]
  show ((nI a).toBitVec ||| (nI b).toBitVec).toNat = _
  rw [BitVec.toNat_or, pk_tn ha, pk_tn hb]
theorem sm25 : ∀ k : Fin 25, ((nI k.1 &&& 31).toBitVec.smod 32).toNat = k.1 := by decide +kernel
theorem ix5' (p q : Nat) : (5 : Int32) * nI p + nI q = nI (5 * p + q) := by
  have e : (5 : Int32) = nI 5 := rfl
  rw [e, pk_mul, nI_add]
theorem TO_get {told : Int32} {De : Nat → Int32} (h : TO told De) {p q : Nat} (hp : p < 5) (hq : q < 5) : ((told >>> ((5 * nI p + nI q) &&& 31)) &&& 1 = 0) ↔ De (5 * p + q) = 0 := by
  obtain ⟨T, hT, rfl, hb⟩ := h
  rw [ix5', pk_shrN (by omega) _ (5 * p + q) (sm25 ⟨5 * p + q, by omega⟩)]
  have hq : T / 2 ^ (5 * p + q) ≤ T := Nat.div_le_self _ _
  have h1 := pk_andN (n := T / 2 ^ (5 * p + q)) (by omega) (m := 1) 1 rfl
  rw [h1]
  have hb := hb (5 * p + q) (by omega)
  rw [Nat.testBit_eq_decide_div_mod_eq, decide_eq_true_eq] at hb
  have e0 : (0 : Int32) = nI 0 := rfl
  rw [e0, nI_eq (by omega) (by omega), ← e0]
  have hm := Nat.mod_lt (T / 2 ^ (5 * p + q)) (show 0 < 2 by omega)
  constructor
  · intro z
    by_cases c : De (5 * p + q) = 0
    · exact c
    · have := hb.mpr c; omega
  · intro z
    have : ¬ (T / 2 ^ (5 * p + q) % 2 = 1) := fun y => (hb.mp y) z
    omega
theorem TO_set {told : Int32} {De : Nat → Int32} (h : TO told De) {p q : Nat} (hp : p < 5) (hq : q < 5) {v : Int32} (hv : v ≠ 0) : TO (told ||| (1 <<< ((5 * nI p + nI q) &&& 31))) (upd De (5 * p + q) v) := by
  obtain ⟨T, hT, rfl, hb⟩ := h
  have e1 : (1 : Int32) = nI 1 := rfl
  have hpw : 2 ^ (5 * p + q) < 2 ^ 25 := Nat.pow_lt_pow_right (by omega) (by omega)
  rw [ix5', e1, pk_shlN _ (5 * p + q) (sm25 ⟨5 * p + q, by omega⟩) (by omega), Nat.one_mul, nI_or (by omega) (by omega)]
  refine ⟨_, Nat.or_lt_two_pow hT hpw, rfl, fun i hi => ?_⟩
  rw [Nat.testBit_or, Bool.or_eq_true, Nat.testBit_two_pow, decide_eq_true_eq, hb i hi]
  by_cases c : i = 5 * p + q
  · subst c; rw [upd_s]; exact ⟨fun _ => hv, fun _ => Or.inr rfl⟩
  · rw [upd_n c]; exact ⟨fun z => z.resolve_right (fun y => c y.symm), fun z => Or.inl z⟩
theorem iteS {α : Type} {c : Prop} [Decidable c] {a b : α} : (if c then some a else some b) = some (if c then a else b) := by
  by_cases h : c
  · rw [if_pos h, if_pos h]
  · rw [if_neg h, if_neg h]
/-- the rest of the reference's line, behind its first word -/
def mL (tape : Nat → Int32) (taped pos bg s v w : Int32) (draft : Nat → Int32) (pe told hi z k : Int32) : Option ((Nat → Int32) × Int32 × Int32 × Int32 × Int32 × Int32 × Int32 × Int32 × Int32 × Int32 × Int32) :=
  b6 (f_X8_takes tape taped pos bg s v 0 w) fun a1 a2 a3 a4 a5 a6 => if a5 ≤ 0 then b10 (f_X8_readLineOf draft pe told hi tape taped a1 a2 a3 a4 a5 a6 k) fun d20 p21 t22 h23 c24 c25 c26 c27 c28 c29 => b2 (if c28 = 0 then b1 (if c26 = 3 then some 1 else some 0) fun t => b2 (f_X8_needs c25 c28 c29 t 2) fun x y => some (x, y) else some (c28, c29)) fun f30 w31 => b6 (f_X8_takes tape taped c24 c25 c26 c27 f30 w31) fun g1 g2 g3 g4 g5 g6 => some (d20, p21, z, t22, h23, g1, g2, g3, g4, g5, g6) else some (draft, pe, z, told, hi, a1, a2, a3, a4, a5, a6)
theorem nIc {c : Nat} (h : 1 ≤ c) (h2 : c ≤ 6) : ¬ nI c ≤ 0 ∧ ¬ nI c = 0 := ⟨nI_nle (by omega) (by omega), nI_ne0 (by omega) (by omega)⟩
variable {p : Nat} {draft : Nat → Int32} {told hi Dr Ho : Int32} {Na Mo Wa De : Nat → Int32}
theorem person_both (hn : n ≤ 160) (h : ∀ i, i < n → tape i = By i ∧ ∃ c, c ≤ 127 ∧ By i = nI c) {e0 : Nat} (he : e0 ≤ n) (hp : p < 5) {k : Nat} (hk : k < 4) (hD : DR p draft told hi Dr Na Mo Wa De Ho) (bg s v w z : Int32) :
    (∃ c a, 1 ≤ c ∧ c ≤ 6 ∧ (∀ Ff Fp So St va, ∃ j1 j2 j3 j4 j5 j6 j7 j8, f_X3_takePerson By (nI n) Ff Fp (nI e0) So St va (nI p) Na Mo Wa (nI k) = some (0, nI c, nI a, j1, j2, j3, j4, j5, j6, j7, j8)) ∧ ∃ d q t y g1 g2 g3 g4, mL tape (nI n) (nI e0) bg s v w draft (nI p) told hi z (nI k) = some (d, q, z, t, y, g1, g2, g3, g4, nI c, nI a)) ∨
    (∃ e draft' Na' Mo' Wa', e0 < e ∧ e ≤ n ∧ (∀ Ff Fp So St va, ∃ s1 s2 v', f_X3_takePerson By (nI n) Ff Fp (nI e0) So St va (nI p) Na Mo Wa (nI k) = some (1, Ff, Fp, nI e, s1, s2, v', nI (p + 1), Na', Mo', Wa')) ∧ (∃ b v', mL tape (nI n) (nI e0) bg s v w draft (nI p) told hi z (nI k) = b6 (f_X8_takes tape (nI n) (nI e) b 3 v' 0 w) fun g1 g2 g3 g4 g5 g6 => some (draft', nI (p + 1), z, told, hi, g1, g2, g3, g4, g5, g6)) ∧ DR (p + 1) draft' told hi Dr Na' Mo' Wa' De Ho) := by
  have k4 : ¬ nI k = 4 := fun z => by have := (nI_eq (b := 4) (by omega) (by omega)).mp z; omega
  have k5 : ¬ nI k = 5 := fun z => by have := (nI_eq (b := 5) (by omega) (by omega)).mp z; omega
  have hp5 : nI p < 5 := nI_lt (b := 5) hp (by omega)
  have hw0 : ∀ f v, wr f 61 (3 * nI p + 0) v = some (upd f (3 * p) v) := by
    intro f v
    rw [ix3 p 0 0 rfl, wr_nI (by omega) (by omega)]; rfl
  have hw1 : ∀ f v, wr f 61 (3 * nI p + 1) v = some (upd f (3 * p + 1) v) := by
    intro f v
    rw [ix3 p 1 1 rfl, wr_nI (by omega) (by omega)]
  have hw2 : ∀ f v, wr f 61 (3 * nI p + 2) v = some (upd f (3 * p + 2) v) := by
    intro f v
    rw [ix3 p 2 2 rfl, wr_nI (by omega) (by omega)]
  unfold mL f_X8_readLineOf f_X8_readNumber f_X3_takePerson
  have s1 := tS_b (By := By) he
  have q1 := tE_b (By := By) s1.2
  rcases num_both (By := By) hn he (lo := 0) (hi := 99) (by omega) (by omega) with ⟨hb, hx⟩ | ⟨hb, c, hc, hx, hl⟩ | ⟨hb, h2, v1, -, hv1, ev1, hx, hl⟩
  · left
    obtain ⟨a, b, c, d, ht⟩ := (M_takes hn h he bg s v w).1 hb
    refine ⟨1, tS By n e0, by omega, by omega, fun Ff Fp So St va => ?_, ?_⟩
    · obtain ⟨j1, j2, j3, j4, hj⟩ := hx Ff Fp va
      have hj' : f_X3_takeNumber By (nI n) Ff Fp (nI e0) va 0 99 = _ := hj
      rw [if_pos hp5, hj', b7_some, if_pos rfl]
      exact ⟨_, _, _, _, _, _, _, _, rfl⟩
    · rw [ht, b6_some, if_neg (by decide)]
      exact ⟨_, _, _, _, _, _, _, _, rfl⟩
  · left
    have ht := (M_takes hn h he bg s v w).2 hb
    obtain ⟨hc1, hc0⟩ := nIc (c := c) (by omega) (by omega)
    refine ⟨c, tS By n e0, by omega, by omega, fun Ff Fp So St va => ?_, ?_⟩
    · obtain ⟨j1, j2, j3, j4, hj⟩ := hx Ff Fp va
      have hj' : f_X3_takeNumber By (nI n) Ff Fp (nI e0) va 0 99 = _ := hj
      rw [if_pos hp5, hj', b7_some, if_pos rfl]
      exact ⟨_, _, _, _, _, _, _, _, rfl⟩
    · have hl' := hl v w
      have hl'' : f_X8_looked (nI (tS By n e0)) (nI (so By n (tS By n e0))) (if so By n (tS By n e0) = 2 then tV By n (tS By n e0) else v) 0 w 0 99 = _ := hl'
      rw [ht, b6_some, if_pos (by decide), if_neg k4, if_neg k5, hw0, b1_some, hl'', b3_some, takes_f hc1, b6_some, b7_some, hw1, b1_some, looked_f hc0, b3_some, takes_f hc1, b6_some, b7_some, hw2, b1_some, b10_some, if_neg hc0, b2_some, takes_f hc1, b6_some]
      exact ⟨_, _, _, _, _, _, _, _, rfl⟩
  · have ht := (M_takes hn h he bg s v w).2 hb
    rw [h2, if_pos rfl, ev1] at ht
    have ht' : f_X8_takes tape (nI n) (nI e0) bg s v 0 w = some (nI (tE By n (tS By n e0)), nI (tS By n e0), 2, nI v1, 0, w) := ht
    have hl' : f_X8_looked (nI (tS By n e0)) 2 (nI v1) 0 w 0 99 = some (nI v1, 0, w) := hl w
    have hx' : ∀ Ff Fp va, f_X3_takeNumber By (nI n) Ff Fp (nI e0) va 0 99 = some (1, Ff, Fp, nI (tE By n (tS By n e0)), 2, nI (tS By n e0), nI v1) := hx
    have p1 := q1.2.2 (by omega) (by omega)
    generalize hE1 : tE By n (tS By n e0) = e1 at *
    have he1 : e1 ≤ n := q1.2.1
    have s2 := tS_b (By := By) he1
    have q2 := tE_b (By := By) s2.2
    rw [ht', b6_some, if_pos (by decide), if_neg k4, if_neg k5, hw0, b1_some, hl', b3_some]
    rcases num_both (By := By) hn he1 (lo := 0) (hi := 9) (by omega) (by omega) with ⟨hb, hy⟩ | ⟨hb, c, hc, hy, hm⟩ | ⟨hb, h3, v2, -, hv2, ev2, hy, hm⟩
    · left
      obtain ⟨a, b, c, d, hu⟩ := (M_takes hn h he1 (nI (tS By n e0)) 2 (nI v1) w).1 hb
      refine ⟨1, tS By n e1, by omega, by omega, fun Ff Fp So St va => ?_, ?_⟩
      · obtain ⟨j1, j2, j3, j4, hj⟩ := hy Ff Fp (nI v1)
        have hj' : f_X3_takeNumber By (nI n) Ff Fp (nI e1) (nI v1) 0 9 = _ := hj
        rw [if_pos hp5, hx', b7_some, if_neg n10, wr_nI (by omega) (by omega), b1_some, hj', b7_some, if_pos rfl]
        exact ⟨_, _, _, _, _, _, _, _, rfl⟩
      · rw [hu, b6_some, b7_some, hw1, b1_some, looked_f (by decide), b3_some, takes_f (by decide), b6_some, b7_some, hw2, b1_some, b10_some, if_neg (by decide), b2_some, takes_f (by decide), b6_some]
        exact ⟨_, _, _, _, _, _, _, _, rfl⟩
    · left
      have hu := (M_takes hn h he1 (nI (tS By n e0)) 2 (nI v1) w).2 hb
      obtain ⟨hc1, hc0⟩ := nIc (c := c) (by omega) (by omega)
      have hm' : f_X8_looked (nI (tS By n e1)) (nI (so By n (tS By n e1))) (if so By n (tS By n e1) = 2 then tV By n (tS By n e1) else nI v1) 0 w 0 9 = _ := hm (nI v1) w
      refine ⟨c, tS By n e1, by omega, by omega, fun Ff Fp So St va => ?_, ?_⟩
      · obtain ⟨j1, j2, j3, j4, hj⟩ := hy Ff Fp (nI v1)
        have hj' : f_X3_takeNumber By (nI n) Ff Fp (nI e1) (nI v1) 0 9 = _ := hj
        rw [if_pos hp5, hx', b7_some, if_neg n10, wr_nI (by omega) (by omega), b1_some, hj', b7_some, if_pos rfl]
        exact ⟨_, _, _, _, _, _, _, _, rfl⟩
      · rw [hu, b6_some, b7_some, hw1, b1_some, hm', b3_some, takes_f hc1, b6_some, b7_some, hw2, b1_some, b10_some, if_neg hc0, b2_some, takes_f hc1, b6_some]
        exact ⟨_, _, _, _, _, _, _, _, rfl⟩
    · have hu := (M_takes hn h he1 (nI (tS By n e0)) 2 (nI v1) w).2 hb
      rw [h3, if_pos rfl, ev2] at hu
      have hu' : f_X8_takes tape (nI n) (nI e1) (nI (tS By n e0)) 2 (nI v1) 0 w = some (nI (tE By n (tS By n e1)), nI (tS By n e1), 2, nI v2, 0, w) := hu
      have hm' : f_X8_looked (nI (tS By n e1)) 2 (nI v2) 0 w 0 9 = some (nI v2, 0, w) := hm w
      have hy' : ∀ Ff Fp va, f_X3_takeNumber By (nI n) Ff Fp (nI e1) va 0 9 = some (1, Ff, Fp, nI (tE By n (tS By n e1)), 2, nI (tS By n e1), nI v2) := hy
      have p2 := q2.2.2 (by omega) (by omega)
      generalize hE2 : tE By n (tS By n e1) = e2 at *
      have he2 : e2 ≤ n := q2.2.1
      have s3 := tS_b (By := By) he2
      have q3 := tE_b (By := By) s3.2
      rw [hu', b6_some, b7_some, hw1, b1_some, hm', b3_some]
      rcases semi_both (By := By) hn he2 with ⟨hb, hz⟩ | ⟨hb, h4, hz⟩ | ⟨hb, h4, hz⟩
      · left
        obtain ⟨a, b, c, d, hr⟩ := (M_takes hn h he2 (nI (tS By n e1)) 2 (nI v2) w).1 hb
        refine ⟨1, tS By n e2, by omega, by omega, fun Ff Fp So St va => ?_, ?_⟩
        · obtain ⟨j1, j2, j3, hj⟩ := hz Ff Fp
          rw [if_pos hp5, hx', b7_some, if_neg n10, wr_nI (by omega) (by omega), b1_some, hy', b7_some, if_neg n10, wr_nI (by omega) (by omega), b1_some, wr_nI (by omega) (by omega), b1_some, hj, b6_some]
          exact ⟨_, _, _, _, _, _, _, _, rfl⟩
        · rw [hr, b6_some, b7_some, hw2, b1_some, b10_some, if_neg (by decide), b2_some, takes_f (by decide), b6_some]
          exact ⟨_, _, _, _, _, _, _, _, rfl⟩
      · left
        have hr := (M_takes hn h he2 (nI (tS By n e1)) 2 (nI v2) w).2 hb
        have l4 := so_le (By := By) (n := n) (tS By n e2)
        refine ⟨2, tS By n e2, by omega, by omega, fun Ff Fp So St va => ?_, ?_⟩
        · obtain ⟨j1, j2, j3, hj⟩ := hz Ff Fp
          rw [if_pos hp5, hx', b7_some, if_neg n10, wr_nI (by omega) (by omega), b1_some, hy', b7_some, if_neg n10, wr_nI (by omega) (by omega), b1_some, wr_nI (by omega) (by omega), b1_some, hj, b6_some]
          exact ⟨_, _, _, _, _, _, _, _, rfl⟩
        · rw [hr, b6_some, b7_some, hw2, b1_some, b10_some, if_pos rfl, if_neg (show ¬ nI (so By n (tS By n e2)) = 3 from so_ne (j := 3) l4 (by omega) h4), b1_some, needs_no, b2_some, b2_some, takes_f (by decide), b6_some]
          exact ⟨_, _, _, _, _, _, _, _, rfl⟩
      · right
        have hr := (M_takes hn h he2 (nI (tS By n e1)) 2 (nI v2) w).2 hb
        rw [h4, if_neg (by omega)] at hr
        have hr' : f_X8_takes tape (nI n) (nI e2) (nI (tS By n e1)) 2 (nI v2) 0 w = some (nI (tE By n (tS By n e2)), nI (tS By n e2), 3, nI v2, 0, w) := hr
        have p3 := q3.2.2 (by omega) (by omega)
        refine ⟨tE By n (tS By n e2), upd (upd (upd draft (3 * p) (nI k)) (3 * p + 1) (nI v1)) (3 * p + 2) (nI v2), upd Na p (nI k), upd Mo p (nI v1), upd Wa p (nI v2), by omega, q3.2.1, fun Ff Fp So St va => ?_, ?_, ?_⟩
        · rw [if_pos hp5, hx', b7_some, if_neg n10, wr_nI (by omega) (by omega), b1_some, hy', b7_some, if_neg n10, wr_nI (by omega) (by omega), b1_some, wr_nI (by omega) (by omega), b1_some, hz, b6_some, nI_1]
          exact ⟨_, _, _, rfl⟩
        · rw [hr', b6_some, b7_some, hw2, b1_some, b10_some, if_pos rfl, if_pos rfl, b1_some, needs_ok, b2_some, b2_some, nI_1]
          exact ⟨_, _, rfl⟩
        · obtain ⟨d1, ⟨r1, r2, r3, r4⟩, d3, d4, d5⟩ := hD
          refine ⟨by omega, ⟨?_, ?_, fun j hj => ?_, fun i hi => ?_⟩, ?_, fun j hj => ?_, d5⟩
          · rw [upd_n (by omega), upd_n (by omega), upd_n (by omega)]; exact r1
          · rw [upd_n (by omega), upd_n (by omega), upd_n (by omega)]; exact r2
          · by_cases cj : j = p
            · subst cj
              refine ⟨?_, ?_, ?_⟩
              · rw [upd_n (by omega), upd_n (by omega), upd_s, upd_s]
              · rw [upd_n (by omega), upd_s, upd_s]
              · rw [upd_s, upd_s]
            · obtain ⟨x1, x2, x3⟩ := r3 j (by omega)
              refine ⟨?_, ?_, ?_⟩
              · rw [upd_n (by omega), upd_n (by omega), upd_n (by omega), upd_n cj]; exact x1
              · rw [upd_n (by omega), upd_n (by omega), upd_n (by omega), upd_n cj]; exact x2
              · rw [upd_n (by omega), upd_n (by omega), upd_n (by omega), upd_n cj]; exact x3
          · rw [upd_n (by omega), upd_n (by omega), upd_n (by omega)]; exact r4 i hi
          · rw [upd_n (by omega), upd_n (by omega), upd_n (by omega)]; exact d3
          · by_cases cj : j = p
            · subst cj; rw [upd_s]; exact nI4 hk
            · rw [upd_n cj]; exact d4 j (by omega)
theorem dry_both (hn : n ≤ 160) (h : ∀ i, i < n → tape i = By i ∧ ∃ c, c ≤ 127 ∧ By i = nI c) {e0 : Nat} (he : e0 ≤ n) (hD : DR p draft told hi Dr Na Mo Wa De Ho) (bg s v w z : Int32) :
    (∃ c a, 1 ≤ c ∧ c ≤ 6 ∧ (∀ Ff Fp So St va, ∃ j1 j2 j3 j4 j5 j6, f_X3_takeDry By (nI n) Ff Fp (nI e0) So St va 0 Dr = some (0, nI c, nI a, j1, j2, j3, j4, j5, j6)) ∧ ∃ d q t y g1 g2 g3 g4, mL tape (nI n) (nI e0) bg s v w draft (nI p) told hi z 5 = some (d, q, z, t, y, g1, g2, g3, g4, nI c, nI a)) ∨
    (∃ e draft' Dr', e0 < e ∧ e ≤ n ∧ (∀ Ff Fp So St va, ∃ s1 s2 v', f_X3_takeDry By (nI n) Ff Fp (nI e0) So St va 0 Dr = some (1, Ff, Fp, nI e, s1, s2, v', 1, Dr')) ∧ (∃ b v', mL tape (nI n) (nI e0) bg s v w draft (nI p) told hi z 5 = b6 (f_X8_takes tape (nI n) (nI e) b 3 v' 0 w) fun g1 g2 g3 g4 g5 g6 => some (draft', nI p, z, told, hi, g1, g2, g3, g4, g5, g6)) ∧ DR p draft' told hi Dr' Na Mo Wa De Ho) := by
  have n54 : ¬ (5 : Int32) = 4 := by decide
  have hw : ∀ f v, wr f 61 41 v = some (upd f 41 v) := fun f v => wr_nI (i := 41) (by omega) (by omega)
  unfold mL f_X8_readLineOf f_X8_readNumber f_X3_takeDry
  have s1 := tS_b (By := By) he
  have q1 := tE_b (By := By) s1.2
  rcases num_both (By := By) hn he (lo := 0) (hi := 9) (by omega) (by omega) with ⟨hb, hx⟩ | ⟨hb, c, hc, hx, hl⟩ | ⟨hb, h2, v1, -, hv1, ev1, hx, hl⟩
  · left
    obtain ⟨a, b, c, d, ht⟩ := (M_takes hn h he bg s v w).1 hb
    refine ⟨1, tS By n e0, by omega, by omega, fun Ff Fp So St va => ?_, ?_⟩
    · obtain ⟨j1, j2, j3, j4, hj⟩ := hx Ff Fp va
      have hj' : f_X3_takeNumber By (nI n) Ff Fp (nI e0) va 0 9 = _ := hj
      rw [if_pos rfl, hj', b7_some, if_pos rfl]
      exact ⟨_, _, _, _, _, _, rfl⟩
    · rw [ht, b6_some, if_neg (by decide)]
      exact ⟨_, _, _, _, _, _, _, _, rfl⟩
  · left
    have ht := (M_takes hn h he bg s v w).2 hb
    obtain ⟨hc1, hc0⟩ := nIc (c := c) (by omega) (by omega)
    refine ⟨c, tS By n e0, by omega, by omega, fun Ff Fp So St va => ?_, ?_⟩
    · obtain ⟨j1, j2, j3, j4, hj⟩ := hx Ff Fp va
      have hj' : f_X3_takeNumber By (nI n) Ff Fp (nI e0) va 0 9 = _ := hj
      rw [if_pos rfl, hj', b7_some, if_pos rfl]
      exact ⟨_, _, _, _, _, _, rfl⟩
    · have hl'' : f_X8_looked (nI (tS By n e0)) (nI (so By n (tS By n e0))) (if so By n (tS By n e0) = 2 then tV By n (tS By n e0) else v) 0 w 0 9 = _ := hl v w
      rw [ht, b6_some, if_pos (by decide), if_neg n54, if_pos rfl, hl'', b3_some, takes_f hc1, b6_some, b7_some, hw, b1_some, b10_some, if_neg hc0, b2_some, takes_f hc1, b6_some]
      exact ⟨_, _, _, _, _, _, _, _, rfl⟩
  · have ht := (M_takes hn h he bg s v w).2 hb
    rw [h2, if_pos rfl, ev1] at ht
    have ht' : f_X8_takes tape (nI n) (nI e0) bg s v 0 w = some (nI (tE By n (tS By n e0)), nI (tS By n e0), 2, nI v1, 0, w) := ht
    have hl' : f_X8_looked (nI (tS By n e0)) 2 (nI v1) 0 w 0 9 = some (nI v1, 0, w) := hl w
    have hx' : ∀ Ff Fp va, f_X3_takeNumber By (nI n) Ff Fp (nI e0) va 0 9 = some (1, Ff, Fp, nI (tE By n (tS By n e0)), 2, nI (tS By n e0), nI v1) := hx
    have p1 := q1.2.2 (by omega) (by omega)
    generalize hE1 : tE By n (tS By n e0) = e1 at *
    have he1 : e1 ≤ n := q1.2.1
    have s2 := tS_b (By := By) he1
    have q2 := tE_b (By := By) s2.2
    rw [ht', b6_some, if_pos (by decide), if_neg n54, if_pos rfl, hl', b3_some]
    rcases semi_both (By := By) hn he1 with ⟨hb, hz⟩ | ⟨hb, h4, hz⟩ | ⟨hb, h4, hz⟩
    · left
      obtain ⟨a, b, c, d, hr⟩ := (M_takes hn h he1 (nI (tS By n e0)) 2 (nI v1) w).1 hb
      refine ⟨1, tS By n e1, by omega, by omega, fun Ff Fp So St va => ?_, ?_⟩
      · obtain ⟨j1, j2, j3, hj⟩ := hz Ff Fp
        rw [if_pos rfl, hx', b7_some, if_neg n10, hj, b6_some]
        exact ⟨_, _, _, _, _, _, rfl⟩
      · rw [hr, b6_some, b7_some, hw, b1_some, b10_some, if_neg (by decide), b2_some, takes_f (by decide), b6_some]
        exact ⟨_, _, _, _, _, _, _, _, rfl⟩
    · left
      have hr := (M_takes hn h he1 (nI (tS By n e0)) 2 (nI v1) w).2 hb
      have l4 := so_le (By := By) (n := n) (tS By n e1)
      refine ⟨2, tS By n e1, by omega, by omega, fun Ff Fp So St va => ?_, ?_⟩
      · obtain ⟨j1, j2, j3, hj⟩ := hz Ff Fp
        rw [if_pos rfl, hx', b7_some, if_neg n10, hj, b6_some]
        exact ⟨_, _, _, _, _, _, rfl⟩
      · rw [hr, b6_some, b7_some, hw, b1_some, b10_some, if_pos rfl, if_neg (show ¬ nI (so By n (tS By n e1)) = 3 from so_ne (j := 3) l4 (by omega) h4), b1_some, needs_no, b2_some, b2_some, takes_f (by decide), b6_some]
        exact ⟨_, _, _, _, _, _, _, _, rfl⟩
    · right
      have hr := (M_takes hn h he1 (nI (tS By n e0)) 2 (nI v1) w).2 hb
      rw [h4, if_neg (by omega)] at hr
      have hr' : f_X8_takes tape (nI n) (nI e1) (nI (tS By n e0)) 2 (nI v1) 0 w = some (nI (tE By n (tS By n e1)), nI (tS By n e1), 3, nI v1, 0, w) := hr
      have p2 := q2.2.2 (by omega) (by omega)
      refine ⟨tE By n (tS By n e1), upd draft 41 (nI v1), nI v1, by omega, q2.2.1, fun Ff Fp So St va => ?_, ?_, ?_⟩
      · rw [if_pos rfl, hx', b7_some, if_neg n10, hz, b6_some]
        exact ⟨_, _, _, rfl⟩
      · rw [hr', b6_some, b7_some, hw, b1_some, b10_some, if_pos rfl, if_pos rfl, b1_some, needs_ok, b2_some, b2_some]
        exact ⟨_, _, rfl⟩
      · obtain ⟨d1, d2, d3, d4⟩ := hD
        exact ⟨d1, d2.dry d1 _, by rw [upd_n (by omega)]; exact d3, d4⟩
end E19
