/-! ===== the mathematics: a room and a row of the model say the same ===== -/
def IvH (s : Int → Int) : Prop := (3 ≤ s 0 ∧ s 0 ≤ 7) ∧ (0 ≤ s 1 ∧ s 1 ≤ 60000) ∧ (0 ≤ s 2 ∧ s 2 ≤ 3) ∧ (0 ≤ s 3 ∧ s 3 ≤ 6) ∧ (1 ≤ s 8 ∧ s 8 ≤ 9) ∧ (1 ≤ s 9 ∧ s 9 ≤ 9) ∧ (0 ≤ s 10 ∧ s 10 ≤ 9) ∧ (1 ≤ s 11 ∧ s 11 ≤ 3)
def IvN (s : Int → Int) : Prop := ∀ k : Int, 0 ≤ k → k < 8 → (-1 ≤ s (12 + k) ∧ s (12 + k) < s 0) ∧ (0 ≤ s (20 + k) ∧ s (20 + k) ≤ 9999)
def IvM (s : Int → Int) : Prop := ∀ m k : Int, 0 ≤ m → m < s 2 → 0 ≤ k → k < 8 → (-1 ≤ s (63 + 16 * m + k) ∧ s (63 + 16 * m + k) < s 0) ∧ (0 ≤ s (63 + 16 * m + 8 + k) ∧ s (63 + 16 * m + 8 + k) ≤ 9999)
def IvO (s : Int → Int) : Prop := ∀ k : Int, 0 ≤ k → k < s 3 → (0 ≤ s (111 + 7 * k + 0) ∧ s (111 + 7 * k + 0) ≤ 2) ∧ (0 ≤ s (111 + 7 * k + 1) ∧ s (111 + 7 * k + 1) < s 0) ∧ (0 ≤ s (111 + 7 * k + 2) ∧ s (111 + 7 * k + 2) < s 0) ∧ (0 ≤ s (111 + 7 * k + 3) ∧ s (111 + 7 * k + 3) < s 0) ∧ (0 ≤ s (111 + 7 * k + 5) ∧ s (111 + 7 * k + 5) ≤ s 2)
/-- the orders lie as they were given; what they make is their own; none reads what a later one makes; marks know nothing of orders given later -/
def IvQ (s : Int → Int) : Prop := (∀ j k : Int, 0 ≤ j → j < k → k < s 3 → s (111 + 7 * j + 5) ≤ s (111 + 7 * k + 5) ∧ s (111 + 7 * j + 1) ≠ s (111 + 7 * k + 1)) ∧ (∀ k j : Int, 0 ≤ k → k ≤ j → j < s 3 → s (111 + 7 * k + 2) ≠ s (111 + 7 * j + 1) ∧ s (111 + 7 * k + 3) ≠ s (111 + 7 * j + 1)) ∧
  (∀ m i k : Int, 0 ≤ m → m < s 2 → 0 ≤ i → i < 8 → 0 ≤ k → k < s 3 → m < s (111 + 7 * k + 5) → s (63 + 16 * m + i) ≠ s (111 + 7 * k + 1))
def IvW (s : Int → Int) : Prop := ∀ c : Int, 0 ≤ c → c < s 0 → (s (28 + 5 * c + 0) = 0 ∨ s (28 + 5 * c + 0) = 1) ∧ (need s c → s (28 + 5 * c + 0) = 1)
def IvX (s : Int → Int) : Prop := ∀ c : Int, 0 ≤ c → c < s 0 → ¬ need s c → s (28 + 5 * c + 0) = 0
def IvV (s : Int → Int) : Prop := ∀ c : Int, 0 ≤ c → c < 7 → 0 ≤ s (28 + 5 * c + 1) ∧ s (28 + 5 * c + 1) ≤ 9999
def EqH (I : mIt) (b : Nat) (s : Int → Int) : Prop := I b 0 = s 0 ∧ I b 1 = s 1 ∧ I b 3 = s 5 ∧ I b 6 = s 2 ∧ (I (b + 1) 0 = s 8 ∧ I (b + 1) 1 = s 9 ∧ I (b + 1) 2 = s 10 ∧ I (b + 1) 3 = s 11)
def EqN (I : mIt) (b : Nat) (s : Int → Int) : Prop := ∀ k : Int, 0 ≤ k → k < 8 → I (b + 3) k = s (12 + k) ∧ I (b + 4) k = s (20 + k)
def EqM (I : mIt) (b : Nat) (s : Int → Int) : Prop := ∀ m : Int, 0 ≤ m → m < s 2 → ∀ k : Int, 0 ≤ k → k < 8 → I (mC b m) k = s (63 + 16 * m + k) ∧ I (mH b m) k = s (63 + 16 * m + 8 + k)
def EqO (I : mIt) (b : Nat) (s : Int → Int) (ph : Int → Int) : Prop := ∀ k : Int, 0 ≤ k → k < s 3 → I (b + 10) (ph k) = s (111 + 7 * k + 0) ∧ I (b + 11) (ph k) = s (111 + 7 * k + 1) ∧ I (b + 12) (ph k) = s (111 + 7 * k + 2) ∧ I (b + 13) (ph k) = s (111 + 7 * k + 3) ∧ I (b + 14) (ph k) = s (111 + 7 * k + 5)
/-- a chair that is needed: its use, its value, when it is known -/
def chR (I : mIt) (b : Nat) (s : Int → Int) (T c : Int) : Prop := (I (b + 8) c - I b 5 = s (28 + 5 * c + 4) - s 7) ∧ ((ordP s c ∧ s (28 + 5 * c + 2) = 0 ∧ s (28 + 5 * c + 3) = -1) ∨
  (¬ ordP s c ∧ I (b + 6) c = s (28 + 5 * c + 1) ∧ ((s (28 + 5 * c + 2) = 1 ∧ s (28 + 5 * c + 3) = -1 ∧ I (b + 7) c ≤ T) ∨ (s (28 + 5 * c + 2) = 0 ∧ I (b + 7) c = s (28 + 5 * c + 3) ∧ T < s (28 + 5 * c + 3) ∧ s (28 + 5 * c + 3) ≤ T + 9))))
def EqC (I : mIt) (b : Nat) (s : Int → Int) (T : Int) : Prop := ∀ c : Int, 0 ≤ c → c < s 0 → need s c → chR I b s T c
/-- an order: when it is done, what it makes -/
def orR (I : mIt) (b : Nat) (s : Int → Int) (T k : Int) : Prop := ((s (111 + 7 * k + 4) = -1 ∧ I (b + 7) (s (111 + 7 * k + 1)) = 1000000) ∨ (T < s (111 + 7 * k + 4) ∧ s (111 + 7 * k + 4) ≤ T + 9 ∧ I (b + 7) (s (111 + 7 * k + 1)) = s (111 + 7 * k + 4) ∧ s (28 + 5 * s (111 + 7 * k + 2) + 2) = 1 ∧ s (28 + 5 * s (111 + 7 * k + 3) + 2) = 1)) ∧
  I (b + 6) (s (111 + 7 * k + 1)) = res (s (111 + 7 * k + 0)) (I (b + 6) (s (111 + 7 * k + 2))) (I (b + 6) (s (111 + 7 * k + 3)))
def EqD (I : mIt) (b : Nat) (s : Int → Int) (T : Int) : Prop := ∀ k : Int, 0 ≤ k → k < s 3 → orR I b s T k
def RgR (I : mIt) (b : Nat) : Prop := ∀ c : Int, 0 ≤ c → c < 7 → (0 ≤ I (b + 6) c ∧ I (b + 6) c ≤ 9999) ∧ (0 ≤ I (b + 7) c ∧ I (b + 7) c ≤ 1000000)
def Ct (N : Int) (I : mIt) (b : Nat) (s : Int → Int) : Prop := (0 ≤ I b 2 ∧ I b 2 ≤ N) ∧ (0 ≤ I b 3 ∧ I b 3 ≤ N) ∧ (0 ≤ I b 4 ∧ I b 4 ≤ N) ∧ (0 ≤ I b 5 ∧ I b 5 ≤ N) ∧ (0 ≤ s 7 ∧ s 7 ≤ N)
def Rg (Tc To : Int) (ph : Int → Int) (I : mIt) (b : Nat) (s : Int → Int) : Prop := IvH s ∧ IvN s ∧ IvM s ∧ IvO s ∧ IvQ s ∧ IvW s ∧ IvV s ∧ EqH I b s ∧ EqN I b s ∧ EqM I b s ∧ EqO I b s ph ∧ EqC I b s Tc ∧ EqD I b s To ∧ RgR I b
def RR (I : mIt) (b : Nat) (s : Int → Int) : Prop := Rg (s 1) (s 1) (fun k => k) I b s ∧ IvX s ∧ I (b + 9) 0 = s 3 ∧ I b 2 = s 4 ∧ I b 4 = s 6
/-- the sets that the room makes -/
theorem pin_bt {I : mIt} {b n mc : Nat} {s : Int → Int} (hH : IvH s) (hO : IvO s) (hM : IvM s) (eO : EqO I b s (fun k => k)) (eM : EqM I b s) (hn : s 3 = n) (hm : s 2 = mc) {j : Nat} (hj : j < 8) : bt (pinA I b n mc) j = true ↔ pinP s j := by
  unfold pinA
  rw [pinN_bt hj 8 (fun i hi k h0 h1 => by
    have h := hM i k (by omega) (by omega) h0 (by omega)
    have e := (eM i (by omega) (by omega) k h0 (by omega)).1
    have := hH.1
    show -1 ≤ I (mC b i) k ∧ I (mC b i) k < 8
    rw [e]; omega), pinO_bt hj n (fun k h0 h1 => by
    have h := hO k h0 (by omega)
    have e := eO k h0 (by omega)
    have := hH.1
    simp only at e
    omega)]
  unfold pinP mrkP redP ordP
  constructor
  · rintro (⟨k, h0, h1, h⟩ | ⟨k, h0, h1, i, hi, h⟩)
    · have e := eO k h0 (by omega)
      simp only at e
      rw [e.2.1, e.2.2.1, e.2.2.2.1] at h
      rcases h with h | h | h
      · exact Or.inr (Or.inr ⟨k, h0, by omega, h⟩)
      · exact Or.inr (Or.inl ⟨k, h0, by omega, Or.inl h⟩)
      · exact Or.inr (Or.inl ⟨k, h0, by omega, Or.inr h⟩)
    · refine Or.inl ⟨i, by omega, by omega, k, h0, by omega, ?_⟩
      rw [← (eM i (by omega) (by omega) k h0 (by omega)).1]; exact h
  · rintro (⟨i, h0, h1, k, h2, h3, h⟩ | ⟨k, h0, h1, h⟩ | ⟨k, h0, h1, h⟩)
    · refine Or.inr ⟨k, h2, by omega, i.toNat, by omega, ?_⟩
      show I (mC b ((i.toNat : Nat) : Int)) k = _
      rw [show ((i.toNat : Nat) : Int) = i by omega, (eM i h0 h1 k h2 h3).1]; exact h
    · have e := eO k h0 h1
      simp only at e
      refine Or.inl ⟨k, h0, by omega, ?_⟩
      rw [e.2.1, e.2.2.1, e.2.2.2.1]; exact Or.inr h
    · have e := eO k h0 h1
      simp only at e
      refine Or.inl ⟨k, h0, by omega, ?_⟩
      rw [e.2.1]; exact Or.inl h
theorem had_bt {I : mIt} {b : Nat} {s : Int → Int} (hH : IvH s) (hN : IvN s) (eN : EqN I b s) {j : Nat} (hj : j < 8) : bt (cset (I (b + 3)) 8) j = true ↔ hadP s j := by
  rw [cset_bt hj 8 (fun k h0 h1 => by
    have h := hN k h0 (by omega)
    have e := (eN k h0 (by omega)).1
    have := hH.1
    omega)]
  unfold hadP
  constructor
  · rintro ⟨k, h0, h1, h⟩; exact ⟨k, h0, by omega, by rw [← (eN k h0 (by omega)).1]; exact h⟩
  · rintro ⟨k, h0, h1, h⟩; exact ⟨k, h0, by omega, by rw [(eN k h0 (by omega)).1]; exact h⟩
theorem tkn_bt {I : mIt} {b n mc : Nat} {s : Int → Int} (hH : IvH s) (hN : IvN s) (hO : IvO s) (hM : IvM s) (eN : EqN I b s) (eO : EqO I b s (fun k => k)) (eM : EqM I b s) (hn : s 3 = n) (hm : s 2 = mc) {j : Nat} (hj : j < 8) : bt (tkn I b n mc) j = true ↔ need s j := by
  unfold tkn need
  rw [bt_or, Bool.or_eq_true, pin_bt hH hO hM eO eM hn hm hj, had_bt hH hN eN hj, or_comm]
theorem lowR_congr {p q : Nat → Bool} : ∀ f j : Nat, (∀ i, j ≤ i → i < j + f → p i = q i) → lowR p f j = lowR q f j := by
  intro f
  induction f with
  | zero => intro j _; rfl
  | succ f ih =>
    intro j h
    rw [lowR, lowR, h j (Nat.le_refl _) (by omega), ih (j + 1) (fun i h1 h2 => h i (by omega) (by omega))]
theorem lowR_or {p : Nat → Bool} : ∀ f j : Nat, lowR p f j = -1 ∨ ∃ i : Nat, lowR p f j = (i : Int) ∧ j ≤ i ∧ i < j + f ∧ p i = true := by
  intro f
  induction f with
  | zero => intro j; exact Or.inl rfl
  | succ f ih =>
    intro j
    rw [lowR]
    by_cases h : p j = true
    · rw [if_pos h]; exact Or.inr ⟨j, rfl, Nat.le_refl _, by omega, h⟩
    · rw [if_neg h]
      rcases ih (j + 1) with h1 | ⟨i, h1, h2, h3, h4⟩
      · exact Or.inl h1
      · exact Or.inr ⟨i, h1, by omega, by omega, h4⟩
theorem lowR_none {p : Nat → Bool} : ∀ f j : Nat, lowR p f j = -1 → ∀ i, j ≤ i → i < j + f → p i = false := by
  intro f
  induction f with
  | zero => intro j _ i h1 h2; omega
  | succ f ih =>
    intro j h i h1 h2
    rw [lowR] at h
    by_cases hp : p j = true
    · rw [if_pos hp] at h; omega
    · rw [if_neg hp] at h
      by_cases hi : i = j
      · subst hi; simpa using hp
      · exact ih (j + 1) h i (by omega) (by omega)
