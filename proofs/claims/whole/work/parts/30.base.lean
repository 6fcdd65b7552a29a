/-! ===== numbers, counts, loops: what the pure part stands on ===== -/
abbrev m1 : Int32 := -1
theorem L0 : (0 : Int32) = nI 0 := Eq.trans rfl rfl
theorem L1 : (1 : Int32) = nI 1 := Eq.trans rfl rfl
theorem L2 : (2 : Int32) = nI 2 := Eq.trans rfl rfl
theorem L3 : (3 : Int32) = nI 3 := Eq.trans rfl rfl
theorem L4 : (4 : Int32) = nI 4 := Eq.trans rfl rfl
theorem L5 : (5 : Int32) = nI 5 := Eq.trans rfl rfl
theorem L8 : (8 : Int32) = nI 8 := Eq.trans rfl rfl
theorem L9 : (9 : Int32) = nI 9 := Eq.trans rfl rfl
theorem L10 : (10 : Int32) = nI 10 := Eq.trans rfl rfl
theorem L11 : (11 : Int32) = nI 11 := Eq.trans rfl rfl
theorem L12 : (12 : Int32) = nI 12 := Eq.trans rfl rfl
theorem L19 : (19 : Int32) = nI 19 := Eq.trans rfl rfl
theorem L20 : (20 : Int32) = nI 20 := Eq.trans rfl rfl
theorem L22 : (22 : Int32) = nI 22 := Eq.trans rfl rfl
theorem L40 : (40 : Int32) = nI 40 := Eq.trans rfl rfl
theorem L42 : (42 : Int32) = nI 42 := Eq.trans rfl rfl
theorem L60 : (60 : Int32) = nI 60 := Eq.trans rfl rfl
theorem L62 : (62 : Int32) = nI 62 := Eq.trans rfl rfl
theorem L82 : (82 : Int32) = nI 82 := Eq.trans rfl rfl
theorem L95 : (95 : Int32) = nI 95 := Eq.trans rfl rfl
theorem L96 : (96 : Int32) = nI 96 := Eq.trans rfl rfl
theorem L100 : (100 : Int32) = nI 100 := Eq.trans rfl rfl
theorem L102 : (102 : Int32) = nI 102 := Eq.trans rfl rfl
theorem L122 : (122 : Int32) = nI 122 := Eq.trans rfl rfl
theorem L240 : (240 : Int32) = nI 240 := Eq.trans rfl rfl
theorem L256 : (256 : Int32) = nI 256 := Eq.trans rfl rfl
theorem L362 : (362 : Int32) = nI 362 := Eq.trans rfl rfl
theorem L458 : (458 : Int32) = nI 458 := Eq.trans rfl rfl
theorem L554 : (554 : Int32) = nI 554 := Eq.trans rfl rfl
theorem L1000000000 : (1000000000 : Int32) = nI 1000000000 := Eq.trans rfl rfl
theorem L100000 : (100000 : Int32) = nI 100000 := Eq.trans rfl rfl
theorem Lm1 : (-nI 1) = m1 := Eq.trans rfl rfl
theorem nI_inj {a b : Nat} (ha : a < 2147483648) (hb : b < 2147483648) : (nI a = nI b) = (a = b) := propext (nI_eq ha hb)
theorem nI_ltE {a b : Nat} (ha : a < 2147483648) (hb : b < 2147483648) : (nI a < nI b) = (a < b) := propext (nI_ltI ha hb)
theorem nI_leE {a b : Nat} (ha : a < 2147483648) (hb : b < 2147483648) : (nI a ≤ nI b) = (a ≤ b) := propext (nI_leI ha hb)
theorem nI_addE (a b : Nat) : nI a + nI b = nI (a + b) := nI_add a b
theorem nI_mulE (a b : Nat) : nI a * nI b = nI (a * b) := pk_mul a b
theorem nI_clE {n : Nat} (h : n < 2147483648) : (nI n).toNatClampNeg = n := nI_clamp h
theorem m1_toInt : m1.toInt = -1 := by decide
theorem nI_m1 {n : Nat} (h : n < 2147483648) : (nI n = m1) = False := by
  refine eq_false (fun e => ?_)
  have h2 := congrArg Int32.toInt e
  rw [nI_toInt h, m1_toInt] at h2
  omega
theorem m1_nI {n : Nat} (h : n < 2147483648) : (m1 = nI n) = False := eq_false (fun e => by have h2 := nI_m1 h; exact (h2 ▸ e.symm))
theorem m1_lt {n : Nat} (h : n < 2147483648) : (m1 < nI n) = True := by
  refine eq_true ?_
  rw [Int32.lt_iff_toInt_lt, nI_toInt h, m1_toInt]
  omega
theorem m1_le {n : Nat} (h : n < 2147483648) : (m1 ≤ nI n) = True := by
  refine eq_true ?_
  rw [Int32.le_iff_toInt_le, nI_toInt h, m1_toInt]
  omega
theorem nI_lt_m1 {n : Nat} (h : n < 2147483648) : (nI n < m1) = False := by
  refine eq_false (fun e => ?_)
  rw [Int32.lt_iff_toInt_lt, nI_toInt h, m1_toInt] at e
  omega
theorem nI_le_m1 {n : Nat} (h : n < 2147483648) : (nI n ≤ m1) = False := by
  refine eq_false (fun e => ?_)
  rw [Int32.le_iff_toInt_le, nI_toInt h, m1_toInt] at e
  omega
theorem ix_nI {a n : Nat} (ha : a < 2147483648) (h : a < n) : ix (nI a) n = true := by
  unfold ix
  rw [decide_eq_true_eq, nI_clE ha]
  rintro (h1 | h1)
  · exact nI_pos ha h1
  · omega
theorem dT_le {m n : Nat} (h : m ≤ n) : (m ≤ n) = True := eq_true h
theorem dF_le {m n : Nat} (h : n < m) : (m ≤ n) = False := eq_false (by omega)
theorem dT_lt {m n : Nat} (h : m < n) : (m < n) = True := eq_true h
theorem dF_lt {m n : Nat} (h : n ≤ m) : (m < n) = False := eq_false (by omega)
theorem dT_eq {m n : Nat} (h : m = n) : (m = n) = True := eq_true h
theorem dF_eq {m n : Nat} (h : m ≠ n) : (m = n) = False := eq_false h
theorem iT {α : Type} {d : Decidable True} (a b : α) : @ite α True d a b = a := if_pos trivial
theorem iF {α : Type} {d : Decidable False} (a b : α) : @ite α False d a b = b := if_neg id
theorem grd_t {α : Type} (x : Option α) : grd true x = x := Eq.trans rfl rfl
theorem lt1_s {α β : Type} (v : α) (f : α → β) : lt1 v f = f v := Eq.trans rfl rfl
theorem bn1_s {α β : Type} (a : α) (f : α → Option β) : bn1 (some a) f = f a := Eq.trans rfl rfl
theorem bn2_s {α β γ : Type} (a : α) (b : β) (f : α → β → Option γ) : bn2 (some (a, b)) f = f a b := Eq.trans rfl rfl
theorem bn3_s {α β γ δ : Type} (a : α) (b : β) (c : γ) (f : α → β → γ → Option δ) : bn3 (some (a, b, c)) f = f a b c := Eq.trans rfl rfl
theorem bn4_s {α β γ δ ε : Type} (a : α) (b : β) (c : γ) (d : δ) (f : α → β → γ → δ → Option ε) : bn4 (some (a, b, c, d)) f = f a b c d := Eq.trans rfl rfl
theorem bn5_s {α β γ δ ε ζ : Type} (a : α) (b : β) (c : γ) (d : δ) (e : ε) (f : α → β → γ → δ → ε → Option ζ) : bn5 (some (a, b, c, d, e)) f = f a b c d e := Eq.trans rfl rfl
theorem nI_succE (n : Nat) : nI n + nI 1 = nI (n + 1) := nI_add n 1
theorem nI_add0 (x : Int32) : x + nI 0 = x := by show x + 0 = x; simp
theorem st_eq (P : Nat → Nat → Int32) (k i : Nat) (v : Int32) : st P k i v k i = v := by simp [st, upd]
theorem st_ne1 {P : Nat → Nat → Int32} {k i a b : Nat} {v : Int32} (h : a ≠ k) : st P k i v a b = P a b := by simp [st, h]
theorem st_ne2 {P : Nat → Nat → Int32} {k i b : Nat} {v : Int32} (h : b ≠ i) : st P k i v k b = P k b := by simp [st, upd, h]
theorem st_if (P : Nat → Nat → Int32) (k i : Nat) (v : Int32) (a b : Nat) : st P k i v a b = if a = k ∧ b = i then v else P a b := by
  by_cases h : a = k
  · subst h
    by_cases h2 : b = i <;> simp [st, upd, h2]
  · simp [st, h]
theorem upd_eq (f : Nat → Int32) (k : Nat) (v : Int32) : upd f k v k = v := by simp [upd]
theorem upd_ne {f : Nat → Int32} {k j : Nat} {v : Int32} (h : j ≠ k) : upd f k v j = f j := by simp [upd, h]
/-- a loop whose states are known -/
theorem loopF {σ ρ : Type} (L : Nat → Nat → σ → ρ) (F : Nat → σ) (R : ρ) (N : Nat) (hs : ∀ n i, i < N → L (n + 1) i (F i) = L n (i + 1) (F (i + 1))) (he : ∀ n, L (n + 1) N (F N) = R) : ∀ d n i, i + d = N → d < n → L n i (F i) = R := by
  intro d
  induction d with
  | zero =>
    intro n i h1 h2
    obtain ⟨m, rfl⟩ : ∃ m, n = m + 1 := ⟨n - 1, by omega⟩
    have : i = N := by omega
    subst this
    exact he m
  | succ d ih =>
    intro n i h1 h2
    obtain ⟨m, rfl⟩ : ∃ m, n = m + 1 := ⟨n - 1, by omega⟩
    rw [hs m i (by omega)]
    exact ih m (i + 1) (by omega) (by omega)
theorem loop0 {σ ρ : Type} (L : Nat → Nat → σ → ρ) (F : Nat → σ) (R : ρ) (N n : Nat) (hn : N < n) (hs : ∀ n i, i < N → L (n + 1) i (F i) = L n (i + 1) (F (i + 1))) (he : ∀ n, L (n + 1) N (F N) = R) : L n 0 (F 0) = R := loopF L F R N hs he N n 0 (by omega) hn
/-- a loop with an invariant -/
theorem loopI {σ ρ : Type} (L : Nat → Nat → σ → ρ) (I : Nat → σ → Prop) (N : Nat) (hs : ∀ n i s, i < N → I i s → ∃ s', L (n + 1) i s = L n (i + 1) s' ∧ I (i + 1) s') : ∀ d n i s, i + d = N → d < n → I i s → ∃ m s', L n i s = L (m + 1) N s' ∧ I N s' := by
  intro d
  induction d with
  | zero =>
    intro n i s h1 h2 h3
    obtain ⟨m, rfl⟩ : ∃ m, n = m + 1 := ⟨n - 1, by omega⟩
    have : i = N := by omega
    subst this
    exact ⟨m, s, rfl, h3⟩
  | succ d ih =>
    intro n i s h1 h2 h3
    obtain ⟨m, rfl⟩ : ∃ m, n = m + 1 := ⟨n - 1, by omega⟩
    obtain ⟨s', e1, h4⟩ := hs m i s (by omega) h3
    obtain ⟨m2, s2, e2, h5⟩ := ih m (i + 1) s' (by omega) (by omega) h4
    exact ⟨m2, s2, e1.trans e2, h5⟩
def cnt (p : Nat → Bool) : Nat → Nat
  | 0 => 0
  | n + 1 => cnt p n + if p n then 1 else 0
theorem cnt_s (p : Nat → Bool) (n : Nat) : cnt p (n + 1) = cnt p n + if p n then 1 else 0 := rfl
theorem cnt_le (p : Nat → Bool) : ∀ n, cnt p n ≤ n
  | 0 => Nat.le_refl 0
  | n + 1 => by
    have h := cnt_le p n
    rw [cnt_s]
    split <;> omega
theorem cnt_cong {p q : Nat → Bool} : ∀ {n : Nat}, (∀ k, k < n → p k = q k) → cnt p n = cnt q n
  | 0, _ => rfl
  | n + 1, h => by rw [cnt_s, cnt_s, cnt_cong (fun k hk => h k (by omega)), h n (by omega)]
theorem cnt_zero {p : Nat → Bool} : ∀ {n : Nat}, cnt p n = 0 ↔ ∀ k, k < n → p k = false
  | 0 => ⟨fun _ k hk => absurd hk (Nat.not_lt_zero k), fun _ => rfl⟩
  | n + 1 => by
    have h := cnt_zero (p := p) (n := n)
    rw [cnt_s]
    constructor
    · intro e k hk
      have h1 : cnt p n = 0 := by omega
      have h2 : p n = false := by
        cases hp : p n with
        | false => rfl
        | true => rw [hp] at e; simp at e
      rcases Nat.lt_succ_iff_lt_or_eq.mp hk with h3 | h3
      · exact h.mp h1 k h3
      · rw [h3]; exact h2
    · intro e
      rw [h.mpr (fun k hk => e k (by omega)), e n (by omega)]
      rfl
theorem cnt_pos {p : Nat → Bool} {n : Nat} : 0 < cnt p n ↔ ∃ k, k < n ∧ p k = true := by
  constructor
  · intro h
    rcases Classical.em (∃ k, k < n ∧ p k = true) with h1 | h1
    · exact h1
    · have : cnt p n = 0 := cnt_zero.mpr (fun k hk => by
        cases hp : p k with
        | false => rfl
        | true => exact absurd ⟨k, hk, hp⟩ h1)
      omega
  · rintro ⟨k, hk, hp⟩
    rcases Nat.eq_zero_or_pos (cnt p n) with h1 | h1
    · have := cnt_zero.mp h1 k hk
      rw [hp] at this
      cases this
    · exact h1
/-- one more: p holds at i, where q did not -/
theorem cnt_add1 {p q : Nat → Bool} {i : Nat} : ∀ {n : Nat}, i < n → (∀ k, k < n → k ≠ i → p k = q k) → p i = true → q i = false → cnt p n = cnt q n + 1
  | 0, h, _, _, _ => absurd h (Nat.not_lt_zero i)
  | n + 1, h, h1, h2, h3 => by
    rw [cnt_s, cnt_s]
    rcases Nat.lt_succ_iff_lt_or_eq.mp h with h4 | h4
    · rw [cnt_add1 h4 (fun k hk => h1 k (by omega)) h2 h3, h1 n (by omega) (by omega)]
      omega
    · subst h4
      rw [cnt_cong (fun k hk => h1 k (by omega) (by omega)), h2, h3]
      simp
theorem cnt_one {p : Nat → Bool} {i n : Nat} (hi : i < n) (h1 : p i = true) (h2 : ∀ k, k < n → k ≠ i → p k = false) : cnt p n = 1 := by
  have h := cnt_add1 (p := p) (q := fun _ => false) hi (fun k hk hk2 => h2 k hk hk2) h1 rfl
  rw [h, cnt_zero.mpr (fun _ _ => rfl)]
theorem cnt_uniq {p : Nat → Bool} : ∀ {n : Nat}, cnt p n = 1 → ∀ {i j : Nat}, i < n → j < n → p i = true → p j = true → i = j
  | 0, h, _, _, _, _, _, _ => by simp [cnt] at h
  | n + 1, h, i, j, hi, hj, pi, pj => by
    rw [cnt_s] at h
    cases hp : p n with
    | false =>
      rw [hp] at h
      have h0 : cnt p n = 1 := by simpa using h
      have hi2 : i < n := by
        rcases Nat.lt_succ_iff_lt_or_eq.mp hi with q | q
        · exact q
        · subst q; rw [hp] at pi; cases pi
      have hj2 : j < n := by
        rcases Nat.lt_succ_iff_lt_or_eq.mp hj with q | q
        · exact q
        · subst q; rw [hp] at pj; cases pj
      exact cnt_uniq h0 hi2 hj2 pi pj
    | true =>
      rw [hp] at h
      have h0 : cnt p n = 0 := by simpa using h
      have hz := cnt_zero.mp h0
      have hi2 : i = n := by
        rcases Nat.lt_succ_iff_lt_or_eq.mp hi with q | q
        · rw [hz i q] at pi; cases pi
        · exact q
      have hj2 : j = n := by
        rcases Nat.lt_succ_iff_lt_or_eq.mp hj with q | q
        · rw [hz j q] at pj; cases pj
        · exact q
      rw [hi2, hj2]
def fst1 (p : Nat → Bool) : Nat → Nat
  | 0 => 0
  | n + 1 => if fst1 p n < n then fst1 p n else if p n then n else n + 1
theorem fst1_le (p : Nat → Bool) : ∀ n, fst1 p n ≤ n
  | 0 => Nat.le_refl 0
  | n + 1 => by
    have ih := fst1_le p n
    simp only [fst1]
    split
    · omega
    · split <;> omega
theorem fst1_no (p : Nat → Bool) : ∀ n k, k < fst1 p n → p k = false
  | 0, k, h => absurd h (Nat.not_lt_zero k)
  | n + 1, k, h => by
    have ih := fst1_no p n
    have hl := fst1_le p n
    simp only [fst1] at h
    split at h
    · exact ih k h
    · rename_i h1
      have e : fst1 p n = n := by omega
      split at h
      · exact ih k (by omega)
      · rename_i h2
        rcases Nat.lt_succ_iff_lt_or_eq.mp h with q | q
        · exact ih k (by omega)
        · subst q; simpa using h2
theorem fst1_yes (p : Nat → Bool) : ∀ n, fst1 p n < n → p (fst1 p n) = true
  | 0, h => absurd h (Nat.not_lt_zero _)
  | n + 1, h => by
    have ih := fst1_yes p n
    have hl := fst1_le p n
    simp only [fst1] at h ⊢
    split
    · rename_i h1
      exact ih h1
    · rename_i h1
      rw [if_neg h1] at h
      split
      · rename_i h2
        exact h2
      · rename_i h2
        rw [if_neg h2] at h
        omega
