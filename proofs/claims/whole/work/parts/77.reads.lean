/-! ===== the mathematics: a command is read, on the program's side ===== -/
def nuE (g : Int → Int) : Nat → Int → Int → Int × Int
  | 0, p, v => (v, p)
  | f + 1, p, v => if 48 ≤ g p ∧ g p ≤ 57 then nuE g f (p + 1) (v * 10 + g p - 48) else (v, p)
theorem nuE_rg (g : Int → Int) : ∀ (f : Nat) (p v : Int), 0 ≤ v → p ≤ (nuE g f p v).2 ∧ (nuE g f p v).2 ≤ p + f ∧ 0 ≤ (nuE g f p v).1 := by
  intro f
  induction f with
  | zero => intro p v h; rw [nuE]; exact ⟨by omega, by omega, h⟩
  | succ f ih =>
    intro p v h
    rw [nuE]
    split
    · obtain ⟨a, b, c⟩ := ih (p + 1) (v * 10 + g p - 48) (by omega)
      exact ⟨by omega, by omega, c⟩
    · exact ⟨by omega, by omega, h⟩
def cst (T : mIt) (p : Int) (w : Int → Int) : mIt := mUp (arS T 54 w) 52 3 p
theorem cst_self (T : mIt) : cst T (T 52 3) (T 54) = T := by
  funext x j
  simp only [cst, mUp, arS, fset]
  by_cases h : x = 52
  · subst h
    by_cases k : j = 3
    · subst k; simp [fset]
    · simp [k, fset]
  · by_cases l : x = 54
    · subst l; simp
    · simp [h, l]
theorem cst_3 (T : mIt) (p q : Int) (w : Int → Int) : mUp (cst T p w) 52 3 q = cst T q w := by
  funext x j
  simp only [cst, mUp, arS, fset]
  by_cases h : x = 52
  · subst h
    by_cases k : j = 3
    · subst k; simp [fset]
    · simp [k, fset]
  · simp [h]
theorem cst_54 (T : mIt) (p c v : Int) (w : Int → Int) : mUp (cst T p w) 54 c v = cst T p (fset w c v) := by
  funext x j
  simp only [cst, mUp, arS, fset]
  by_cases h : x = 52
  · subst h; simp
  · by_cases l : x = 54
    · subst l; simp
    · simp [h, l]
theorem cst_p (T : mIt) (p : Int) (w : Int → Int) : cst T p w 52 3 = p := by simp [cst, mUp, fset]
theorem cst_w (T : mIt) (p : Int) (w : Int → Int) : cst T p w 54 = w := by
  funext j; simp [cst, mUp, arS, fset]
theorem cst_x (T : mIt) (p : Int) (w : Int → Int) {x : Nat} {j : Int} (h : x ≠ 54) (h2 : ¬ (x = 52 ∧ j = 3)) : cst T p w x j = T x j := by
  simp only [cst, mUp, arS, fset]
  by_cases k : x = 52
  · subst k
    have : j ≠ 3 := fun z => h2 ⟨rfl, z⟩
    simp [this, fset]
  · simp [h, k]
theorem cst_sg (T : mIt) (p : Int) (w : Int → Int) : sgV (cst T p w) = sgV T := by
  funext x
  unfold sgV
  rw [cst_x T p w (by omega) (by omega), cst_x T p w (by omega) (by omega)]
theorem xn_cst (T : mIt) (w : Int → Int) : ∀ (f : Nat) (p v : Int) (c : Nat), (xnL f (cst T p w) v c).1 = cst T (nuE (sgV T) f p v).2 w ∧ (xnL f (cst T p w) v c).2.1 = (nuE (sgV T) f p v).1 ∧ (((xnL f (cst T p w) v c).2.2 : Nat) : Int) = c + ((nuE (sgV T) f p v).2 - p) := by
  intro f
  induction f with
  | zero => intro p v c; rw [xnL, nuE]; exact ⟨rfl, rfl, by simp only; omega⟩
  | succ f ih =>
    intro p v c
    rw [xnL, cst_p, cst_sg, nuE]
    by_cases h : 48 ≤ sgV T p ∧ sgV T p ≤ 57
    · rw [if_pos h, if_pos h, cst_3]
      obtain ⟨a, b, d⟩ := ih (p + 1) (v * 10 + sgV T p - 48) (c + 1)
      exact ⟨a, b, by omega⟩
    · rw [if_neg h, if_neg h]
      exact ⟨rfl, rfl, by simp only; omega⟩
/-- what a reading says: if C holds all is read, else not -/
def rdR (X : Bool × mIt) (T : mIt) (C : Prop) (n : Int) (w : Int → Int) : Prop := (C → X = (true, cst T n w)) ∧ (¬ C → ∃ (q : Int) (u : Int → Int), X = (false, cst T q u))
theorem rd_end (i : Nat) (T : mIt) (p : Int) (w : Int → Int) (c q : Int) : rdR (mxL i 0 (cst T p w) c q) T True p w := ⟨fun _ => rfl, fun h => absurd trivial h⟩
theorem rd_iff {X : Bool × mIt} {T : mIt} {C D : Prop} {n : Int} {w : Int → Int} (h : C ↔ D) (r : rdR X T C n w) : rdR X T D n w := ⟨fun d => r.1 (h.mpr d), fun d => r.2 (fun c => d (h.mp c))⟩
theorem rd_lit {i f : Nat} {T : mIt} {p q c n : Int} {w u : Int → Int} {C : Prop} (ch : Int) (h : chS i q = ch) (h1 : ch ≠ 64) (h2 : ch ≠ 35) (p' q' : Int) (hp : p' = p + 1) (hq : q' = q + 1) (r : rdR (mxL i f (cst T p' w) c q') T C n u) : rdR (mxL i (f + 1) (cst T p w) c q) T (sgV T p = ch ∧ C) n u := by
  have e : mxL i (f + 1) (cst T p w) c q = if sgV T p = ch then mxL i f (cst T p' w) c q' else (false, cst T p w) := by
    rw [mxL, h, if_neg (by omega), cst_p, cst_sg, cst_3, hp, hq]
  rw [e]
  by_cases k : sgV T p = ch
  · rw [if_pos k]; exact rd_iff ⟨fun d => ⟨k, d⟩, fun d => d.2⟩ r
  · rw [if_neg k]; exact ⟨fun d => absurd d.1 k, fun _ => ⟨p, w, rfl⟩⟩
theorem rd_nm {i f : Nat} {T : mIt} {p q c n : Int} {w u : Int → Int} {C : Prop} (h : chS i q = 64) (hc : c < 3) (p' c' q' : Int) (hp : p' = p + 1) (hk : c' = c + 1) (hq : q' = q + 1) (r : rdR (mxL i f (cst T p' (fset w c (sgV T p - 97))) c' q') T C n u) : rdR (mxL i (f + 1) (cst T p w) c q) T ((97 ≤ sgV T p ∧ sgV T p ≤ 104) ∧ C) n u := by
  by_cases k : 97 ≤ sgV T p ∧ sgV T p ≤ 104
  · have e : mxL i (f + 1) (cst T p w) c q = mxL i f (cst T p' (fset w c (sgV T p - 97))) c' q' := by
      rw [mxL, h, if_pos (Or.inl rfl)]
      have a1 : rdV (cst T p w) 64 = sgV T p - 97 := by unfold rdV rxV; rw [if_pos rfl, cst_p, cst_sg, if_pos k]
      have a2 : rdI (cst T p w) 64 = cst T p' w := by unfold rdI rxI; rw [if_pos rfl, cst_p, cst_sg, if_pos k, cst_3, hp]
      rw [a1, a2, if_neg (by omega), cst_54, hk, hq]
    rw [e]
    exact rd_iff ⟨fun d => ⟨k, d⟩, fun d => d.2⟩ r
  · have e : mxL i (f + 1) (cst T p w) c q = (false, cst T p w) := by
      rw [mxL, h, if_pos (Or.inl rfl)]
      have a1 : rdV (cst T p w) 64 = -1 := by unfold rdV rxV; rw [if_pos rfl, cst_p, cst_sg, if_neg k]
      have a2 : rdI (cst T p w) 64 = cst T p w := by unfold rdI rxI; rw [if_pos rfl, cst_p, cst_sg, if_neg k]
      rw [a1, a2, if_pos (Or.inl rfl)]
    rw [e]
    exact ⟨fun d => absurd d.1 k, fun _ => ⟨p, w, rfl⟩⟩
theorem rd_nu {i f : Nat} {T : mIt} {p q c n : Int} {w u : Int → Int} {C : Prop} (h : chS i q = 35) (hc : c < 3) (c' q' : Int) (hk : c' = c + 1) (hq : q' = q + 1) (r : rdR (mxL i f (cst T (nuE (sgV T) 4 p 0).2 (fset w c (nuE (sgV T) 4 p 0).1)) c' q') T C n u) : rdR (mxL i (f + 1) (cst T p w) c q) T (p < (nuE (sgV T) 4 p 0).2 ∧ C) n u := by
  obtain ⟨x1, x2, x3⟩ := xn_cst T w 4 p 0 0
  obtain ⟨n1, n2, n3⟩ := nuE_rg (sgV T) 4 p 0 (by omega)
  have a2 : rdI (cst T p w) 35 = cst T (nuE (sgV T) 4 p 0).2 w := by unfold rdI; rw [if_neg (by omega)]; exact x1
  by_cases k : p < (nuE (sgV T) 4 p 0).2
  · have e : mxL i (f + 1) (cst T p w) c q = mxL i f (cst T (nuE (sgV T) 4 p 0).2 (fset w c (nuE (sgV T) 4 p 0).1)) c' q' := by
      rw [mxL, h, if_pos (Or.inr rfl)]
      have a1 : rdV (cst T p w) 35 = (nuE (sgV T) 4 p 0).1 := by unfold rdV xnV; rw [if_neg (by omega), if_neg (by omega), x2]
      rw [a1, a2, if_neg (by omega), cst_54, hk, hq]
    rw [e]
    exact rd_iff ⟨fun d => ⟨k, d⟩, fun d => d.2⟩ r
  · have e : mxL i (f + 1) (cst T p w) c q = (false, cst T (nuE (sgV T) 4 p 0).2 w) := by
      rw [mxL, h, if_pos (Or.inr rfl)]
      have a1 : rdV (cst T p w) 35 = -1 := by unfold rdV xnV; rw [if_neg (by omega), if_pos (by omega)]
      rw [a1, a2, if_pos (Or.inl rfl)]
    rw [e]
    exact ⟨fun d => absurd d.1 k, fun _ => ⟨_, w, rfl⟩⟩
/-- behind the word of a command: what must stand there, where it ends, what it says -/
def rsP (g : Int → Int) (e : Int) (w : Int) : Prop := if w < 3 then (g e = 32 ∧ (97 ≤ g (e + 1) ∧ g (e + 1) ≤ 104) ∧ g (e + 2) = 32 ∧ (97 ≤ g (e + 3) ∧ g (e + 3) ≤ 104) ∧ g (e + 4) = 32 ∧ (97 ≤ g (e + 5) ∧ g (e + 5) ≤ 104) ∧ g (e + 6) = 59) else if w = 3 then (g e = 32 ∧ (97 ≤ g (e + 1) ∧ g (e + 1) ≤ 104) ∧ g (e + 2) = 32 ∧ e + 3 < (nuE g 4 (e + 3) 0).2 ∧ g (nuE g 4 (e + 3) 0).2 = 59) else if w = 4 then (g e = 32 ∧ (97 ≤ g (e + 1) ∧ g (e + 1) ≤ 104) ∧ g (e + 2) = 32 ∧ (97 ≤ g (e + 3) ∧ g (e + 3) ≤ 104) ∧ g (e + 4) = 59) else if w = 6 ∨ w = 7 then g e = 59 else (g e = 32 ∧ e + 1 < (nuE g 4 (e + 1) 0).2 ∧ g (nuE g 4 (e + 1) 0).2 = 59)
def rsN (g : Int → Int) (e : Int) (w : Int) : Int := if w < 3 then e + 7 else if w = 3 then (nuE g 4 (e + 3) 0).2 + 1 else if w = 4 then e + 5 else if w = 6 ∨ w = 7 then e + 1 else (nuE g 4 (e + 1) 0).2 + 1
def rsW (g : Int → Int) (e : Int) (w : Int) (u : Int → Int) : Int → Int := if w < 3 then fset (fset (fset u 0 (g (e + 1) - 97)) 1 (g (e + 3) - 97)) 2 (g (e + 5) - 97) else if w = 3 then fset (fset u 0 (g (e + 1) - 97)) 1 (nuE g 4 (e + 3) 0).1 else if w = 4 then fset (fset u 0 (g (e + 1) - 97)) 1 (g (e + 3) - 97) else if w = 6 ∨ w = 7 then u else fset u 0 (nuE g 4 (e + 1) 0).1
/-- the words -/
def w3P (g : Int → Int) (p a b c : Int) : Prop := g p = a ∧ g (p + 1) = b ∧ g (p + 2) = c
def w4P (g : Int → Int) (p a b c d : Int) : Prop := g p = a ∧ g (p + 1) = b ∧ g (p + 2) = c ∧ g (p + 3) = d
def kwP (g : Int → Int) (p w : Int) : Prop := if w = 0 then w3P g p 97 100 100 else if w = 1 then w3P g p 115 117 98 else if w = 2 then w3P g p 109 117 108 else if w = 3 then w3P g p 112 117 116 else if w = 4 then w4P g p 99 111 112 121 else if w = 5 then w4P g p 116 105 99 107 else if w = 6 then w4P g p 109 97 114 107 else if w = 7 then w4P g p 107 101 101 112 else w4P g p 98 97 99 107
def kwL (w : Int) : Int := if w < 4 then 3 else 4
def cmP (g : Int → Int) (p w : Int) : Prop := kwP g p w ∧ rsP g (p + kwL w) w
theorem fm_0 (T : mIt) (p : Int) (u : Int → Int) : rdR (mxL 0 10 (cst T p u) 0 0) T (cmP (sgV T) p 0) (rsN (sgV T) (p + kwL 0) 0) (rsW (sgV T) (p + kwL 0) 0 u) := by
  have e : p + kwL 0 = p + 3 := by unfold kwL; rw [if_pos (by omega)]
  rw [e]
  unfold cmP kwP rsN rsW
  rw [e]
  unfold rsP
  simp only [Int.add_assoc, Int.reduceAdd, Int.reduceLT, Int.reduceEq, ↓reduceIte, false_or, or_false, or_self, true_or, or_true]
  unfold w3P
  refine rd_iff ?_ (rd_lit 97 (by decide +kernel) (by omega) (by omega) (p + 1) 1 (by omega) (by omega) (rd_lit 100 (by decide +kernel) (by omega) (by omega) (p + 2) 2 (by omega) (by omega) (rd_lit 100 (by decide +kernel) (by omega) (by omega) (p + 3) 3 (by omega) (by omega) (rd_lit 32 (by decide +kernel) (by omega) (by omega) (p + 4) 4 (by omega) (by omega) (rd_nm (by decide +kernel) (by omega) (p + 5) 1 5 (by omega) (by omega) (by omega) (rd_lit 32 (by decide +kernel) (by omega) (by omega) (p + 6) 6 (by omega) (by omega) (rd_nm (by decide +kernel) (by omega) (p + 7) 2 7 (by omega) (by omega) (by omega) (rd_lit 32 (by decide +kernel) (by omega) (by omega) (p + 8) 8 (by omega) (by omega) (rd_nm (by decide +kernel) (by omega) (p + 9) 3 9 (by omega) (by omega) (by omega) (rd_lit 59 (by decide +kernel) (by omega) (by omega) (p + 10) 10 (by omega) (by omega) (rd_end _ _ _ _ _ _)))))))))))
  simp only [and_assoc, and_true]
theorem fm_1 (T : mIt) (p : Int) (u : Int → Int) : rdR (mxL 1 10 (cst T p u) 0 0) T (cmP (sgV T) p 1) (rsN (sgV T) (p + kwL 1) 1) (rsW (sgV T) (p + kwL 1) 1 u) := by
  have e : p + kwL 1 = p + 3 := by unfold kwL; rw [if_pos (by omega)]
  rw [e]
  unfold cmP kwP rsN rsW
  rw [e]
  unfold rsP
  simp only [Int.add_assoc, Int.reduceAdd, Int.reduceLT, Int.reduceEq, ↓reduceIte, false_or, or_false, or_self, true_or, or_true]
  unfold w3P
  refine rd_iff ?_ (rd_lit 115 (by decide +kernel) (by omega) (by omega) (p + 1) 1 (by omega) (by omega) (rd_lit 117 (by decide +kernel) (by omega) (by omega) (p + 2) 2 (by omega) (by omega) (rd_lit 98 (by decide +kernel) (by omega) (by omega) (p + 3) 3 (by omega) (by omega) (rd_lit 32 (by decide +kernel) (by omega) (by omega) (p + 4) 4 (by omega) (by omega) (rd_nm (by decide +kernel) (by omega) (p + 5) 1 5 (by omega) (by omega) (by omega) (rd_lit 32 (by decide +kernel) (by omega) (by omega) (p + 6) 6 (by omega) (by omega) (rd_nm (by decide +kernel) (by omega) (p + 7) 2 7 (by omega) (by omega) (by omega) (rd_lit 32 (by decide +kernel) (by omega) (by omega) (p + 8) 8 (by omega) (by omega) (rd_nm (by decide +kernel) (by omega) (p + 9) 3 9 (by omega) (by omega) (by omega) (rd_lit 59 (by decide +kernel) (by omega) (by omega) (p + 10) 10 (by omega) (by omega) (rd_end _ _ _ _ _ _)))))))))))
  simp only [and_assoc, and_true]
theorem fm_2 (T : mIt) (p : Int) (u : Int → Int) : rdR (mxL 2 10 (cst T p u) 0 0) T (cmP (sgV T) p 2) (rsN (sgV T) (p + kwL 2) 2) (rsW (sgV T) (p + kwL 2) 2 u) := by
  have e : p + kwL 2 = p + 3 := by unfold kwL; rw [if_pos (by omega)]
  rw [e]
  unfold cmP kwP rsN rsW
  rw [e]
  unfold rsP
  simp only [Int.add_assoc, Int.reduceAdd, Int.reduceLT, Int.reduceEq, ↓reduceIte, false_or, or_false, or_self, true_or, or_true]
  unfold w3P
  refine rd_iff ?_ (rd_lit 109 (by decide +kernel) (by omega) (by omega) (p + 1) 1 (by omega) (by omega) (rd_lit 117 (by decide +kernel) (by omega) (by omega) (p + 2) 2 (by omega) (by omega) (rd_lit 108 (by decide +kernel) (by omega) (by omega) (p + 3) 3 (by omega) (by omega) (rd_lit 32 (by decide +kernel) (by omega) (by omega) (p + 4) 4 (by omega) (by omega) (rd_nm (by decide +kernel) (by omega) (p + 5) 1 5 (by omega) (by omega) (by omega) (rd_lit 32 (by decide +kernel) (by omega) (by omega) (p + 6) 6 (by omega) (by omega) (rd_nm (by decide +kernel) (by omega) (p + 7) 2 7 (by omega) (by omega) (by omega) (rd_lit 32 (by decide +kernel) (by omega) (by omega) (p + 8) 8 (by omega) (by omega) (rd_nm (by decide +kernel) (by omega) (p + 9) 3 9 (by omega) (by omega) (by omega) (rd_lit 59 (by decide +kernel) (by omega) (by omega) (p + 10) 10 (by omega) (by omega) (rd_end _ _ _ _ _ _)))))))))))
  simp only [and_assoc, and_true]
theorem fm_3 (T : mIt) (p : Int) (u : Int → Int) : rdR (mxL 3 8 (cst T p u) 0 0) T (cmP (sgV T) p 3) (rsN (sgV T) (p + kwL 3) 3) (rsW (sgV T) (p + kwL 3) 3 u) := by
  have e : p + kwL 3 = p + 3 := by unfold kwL; rw [if_pos (by omega)]
  rw [e]
  unfold cmP kwP rsN rsW
  rw [e]
  unfold rsP
  simp only [Int.add_assoc, Int.reduceAdd, Int.reduceLT, Int.reduceEq, ↓reduceIte, false_or, or_false, or_self, true_or, or_true]
  unfold w3P
  refine rd_iff ?_ (rd_lit 112 (by decide +kernel) (by omega) (by omega) (p + 1) 1 (by omega) (by omega) (rd_lit 117 (by decide +kernel) (by omega) (by omega) (p + 2) 2 (by omega) (by omega) (rd_lit 116 (by decide +kernel) (by omega) (by omega) (p + 3) 3 (by omega) (by omega) (rd_lit 32 (by decide +kernel) (by omega) (by omega) (p + 4) 4 (by omega) (by omega) (rd_nm (by decide +kernel) (by omega) (p + 5) 1 5 (by omega) (by omega) (by omega) (rd_lit 32 (by decide +kernel) (by omega) (by omega) (p + 6) 6 (by omega) (by omega) (rd_nu (by decide +kernel) (by omega) 2 7 (by omega) (by omega) (rd_lit 59 (by decide +kernel) (by omega) (by omega) ((nuE (sgV T) 4 (p + 6) 0).2 + 1) 8 (by omega) (by omega) (rd_end _ _ _ _ _ _)))))))))
  simp only [and_assoc, and_true]
theorem fm_4 (T : mIt) (p : Int) (u : Int → Int) : rdR (mxL 4 9 (cst T p u) 0 0) T (cmP (sgV T) p 4) (rsN (sgV T) (p + kwL 4) 4) (rsW (sgV T) (p + kwL 4) 4 u) := by
  have e : p + kwL 4 = p + 4 := by unfold kwL; rw [if_neg (by omega)]
  rw [e]
  unfold cmP kwP rsN rsW
  rw [e]
  unfold rsP
  simp only [Int.add_assoc, Int.reduceAdd, Int.reduceLT, Int.reduceEq, ↓reduceIte, false_or, or_false, or_self, true_or, or_true]
  unfold w4P
  refine rd_iff ?_ (rd_lit 99 (by decide +kernel) (by omega) (by omega) (p + 1) 1 (by omega) (by omega) (rd_lit 111 (by decide +kernel) (by omega) (by omega) (p + 2) 2 (by omega) (by omega) (rd_lit 112 (by decide +kernel) (by omega) (by omega) (p + 3) 3 (by omega) (by omega) (rd_lit 121 (by decide +kernel) (by omega) (by omega) (p + 4) 4 (by omega) (by omega) (rd_lit 32 (by decide +kernel) (by omega) (by omega) (p + 5) 5 (by omega) (by omega) (rd_nm (by decide +kernel) (by omega) (p + 6) 1 6 (by omega) (by omega) (by omega) (rd_lit 32 (by decide +kernel) (by omega) (by omega) (p + 7) 7 (by omega) (by omega) (rd_nm (by decide +kernel) (by omega) (p + 8) 2 8 (by omega) (by omega) (by omega) (rd_lit 59 (by decide +kernel) (by omega) (by omega) (p + 9) 9 (by omega) (by omega) (rd_end _ _ _ _ _ _))))))))))
  simp only [and_assoc, and_true]
theorem fm_5 (T : mIt) (p : Int) (u : Int → Int) : rdR (mxL 5 7 (cst T p u) 0 0) T (cmP (sgV T) p 5) (rsN (sgV T) (p + kwL 5) 5) (rsW (sgV T) (p + kwL 5) 5 u) := by
  have e : p + kwL 5 = p + 4 := by unfold kwL; rw [if_neg (by omega)]
  rw [e]
  unfold cmP kwP rsN rsW
  rw [e]
  unfold rsP
  simp only [Int.add_assoc, Int.reduceAdd, Int.reduceLT, Int.reduceEq, ↓reduceIte, false_or, or_false, or_self, true_or, or_true]
  unfold w4P
  refine rd_iff ?_ (rd_lit 116 (by decide +kernel) (by omega) (by omega) (p + 1) 1 (by omega) (by omega) (rd_lit 105 (by decide +kernel) (by omega) (by omega) (p + 2) 2 (by omega) (by omega) (rd_lit 99 (by decide +kernel) (by omega) (by omega) (p + 3) 3 (by omega) (by omega) (rd_lit 107 (by decide +kernel) (by omega) (by omega) (p + 4) 4 (by omega) (by omega) (rd_lit 32 (by decide +kernel) (by omega) (by omega) (p + 5) 5 (by omega) (by omega) (rd_nu (by decide +kernel) (by omega) 1 6 (by omega) (by omega) (rd_lit 59 (by decide +kernel) (by omega) (by omega) ((nuE (sgV T) 4 (p + 5) 0).2 + 1) 7 (by omega) (by omega) (rd_end _ _ _ _ _ _))))))))
  simp only [and_assoc, and_true]
theorem fm_6 (T : mIt) (p : Int) (u : Int → Int) : rdR (mxL 6 5 (cst T p u) 0 0) T (cmP (sgV T) p 6) (rsN (sgV T) (p + kwL 6) 6) (rsW (sgV T) (p + kwL 6) 6 u) := by
  have e : p + kwL 6 = p + 4 := by unfold kwL; rw [if_neg (by omega)]
  rw [e]
  unfold cmP kwP rsN rsW
  rw [e]
  unfold rsP
  simp only [Int.add_assoc, Int.reduceAdd, Int.reduceLT, Int.reduceEq, ↓reduceIte, false_or, or_false, or_self, true_or, or_true]
  unfold w4P
  refine rd_iff ?_ (rd_lit 109 (by decide +kernel) (by omega) (by omega) (p + 1) 1 (by omega) (by omega) (rd_lit 97 (by decide +kernel) (by omega) (by omega) (p + 2) 2 (by omega) (by omega) (rd_lit 114 (by decide +kernel) (by omega) (by omega) (p + 3) 3 (by omega) (by omega) (rd_lit 107 (by decide +kernel) (by omega) (by omega) (p + 4) 4 (by omega) (by omega) (rd_lit 59 (by decide +kernel) (by omega) (by omega) (p + 5) 5 (by omega) (by omega) (rd_end _ _ _ _ _ _))))))
  simp only [and_assoc, and_true]
theorem fm_7 (T : mIt) (p : Int) (u : Int → Int) : rdR (mxL 7 5 (cst T p u) 0 0) T (cmP (sgV T) p 7) (rsN (sgV T) (p + kwL 7) 7) (rsW (sgV T) (p + kwL 7) 7 u) := by
  have e : p + kwL 7 = p + 4 := by unfold kwL; rw [if_neg (by omega)]
  rw [e]
  unfold cmP kwP rsN rsW
  rw [e]
  unfold rsP
  simp only [Int.add_assoc, Int.reduceAdd, Int.reduceLT, Int.reduceEq, ↓reduceIte, false_or, or_false, or_self, true_or, or_true]
  unfold w4P
  refine rd_iff ?_ (rd_lit 107 (by decide +kernel) (by omega) (by omega) (p + 1) 1 (by omega) (by omega) (rd_lit 101 (by decide +kernel) (by omega) (by omega) (p + 2) 2 (by omega) (by omega) (rd_lit 101 (by decide +kernel) (by omega) (by omega) (p + 3) 3 (by omega) (by omega) (rd_lit 112 (by decide +kernel) (by omega) (by omega) (p + 4) 4 (by omega) (by omega) (rd_lit 59 (by decide +kernel) (by omega) (by omega) (p + 5) 5 (by omega) (by omega) (rd_end _ _ _ _ _ _))))))
  simp only [and_assoc, and_true]
theorem fm_8 (T : mIt) (p : Int) (u : Int → Int) : rdR (mxL 8 7 (cst T p u) 0 0) T (cmP (sgV T) p 8) (rsN (sgV T) (p + kwL 8) 8) (rsW (sgV T) (p + kwL 8) 8 u) := by
  have e : p + kwL 8 = p + 4 := by unfold kwL; rw [if_neg (by omega)]
  rw [e]
  unfold cmP kwP rsN rsW
  rw [e]
  unfold rsP
  simp only [Int.add_assoc, Int.reduceAdd, Int.reduceLT, Int.reduceEq, ↓reduceIte, false_or, or_false, or_self, true_or, or_true]
  unfold w4P
  refine rd_iff ?_ (rd_lit 98 (by decide +kernel) (by omega) (by omega) (p + 1) 1 (by omega) (by omega) (rd_lit 97 (by decide +kernel) (by omega) (by omega) (p + 2) 2 (by omega) (by omega) (rd_lit 99 (by decide +kernel) (by omega) (by omega) (p + 3) 3 (by omega) (by omega) (rd_lit 107 (by decide +kernel) (by omega) (by omega) (p + 4) 4 (by omega) (by omega) (rd_lit 32 (by decide +kernel) (by omega) (by omega) (p + 5) 5 (by omega) (by omega) (rd_nu (by decide +kernel) (by omega) 1 6 (by omega) (by omega) (rd_lit 59 (by decide +kernel) (by omega) (by omega) ((nuE (sgV T) 4 (p + 5) 0).2 + 1) 7 (by omega) (by omega) (rd_end _ _ _ _ _ _))))))))
  simp only [and_assoc, and_true]
/-- one form, tried from any state of the reader -/
theorem mt_cst (T : mIt) (p q : Int) (u : Int → Int) {w : Int} (h0 : 0 ≤ w) (h8 : w ≤ 8) : rdR (mtR (cst T q u) (fmK w) p) T (cmP (sgV T) p w) (rsN (sgV T) (p + kwL w) w) (rsW (sgV T) (p + kwL w) w u) := by
  unfold mtR
  rw [cst_3]
  have h : w = 0 ∨ w = 1 ∨ w = 2 ∨ w = 3 ∨ w = 4 ∨ w = 5 ∨ w = 6 ∨ w = 7 ∨ w = 8 := by omega
  rcases h with h | h | h | h | h | h | h | h | h <;> subst h
  · exact fm_0 T p u
  · exact fm_1 T p u
  · exact fm_2 T p u
  · exact fm_3 T p u
  · exact fm_4 T p u
  · exact fm_5 T p u
  · exact fm_6 T p u
  · exact fm_7 T p u
  · exact fm_8 T p u
theorem rc_cst (T : mIt) (p : Int) : ∀ (f : Nat) (w q : Int) (u : Int → Int), 0 ≤ w → (f : Int) + w = 9 → (∃ (q' : Int) (u' : Int → Int), rcL p f (cst T q u) w = (-1, cst T q' u') ∧ ∀ v : Int, w ≤ v → v ≤ 8 → ¬ cmP (sgV T) p v) ∨ (∃ (v : Int) (u' : Int → Int), 0 ≤ v ∧ v ≤ 8 ∧ cmP (sgV T) p v ∧ rcL p f (cst T q u) w = (v, cst T (rsN (sgV T) (p + kwL v) v) (rsW (sgV T) (p + kwL v) v u'))) := by
  intro f
  induction f with
  | zero => intro w q u h0 h9; exact Or.inl ⟨q, u, rfl, fun v a b => by omega⟩
  | succ f ih =>
    intro w q u h0 h9
    obtain ⟨r1, r2⟩ := mt_cst T p q u h0 (by omega)
    rw [rcL]
    by_cases k : cmP (sgV T) p w
    · have e := r1 k
      rw [e, if_pos rfl]
      exact Or.inr ⟨w, u, h0, by omega, k, rfl⟩
    · obtain ⟨q', u', e⟩ := r2 k
      rw [e, if_neg (by simp)]
      rcases ih (w + 1) q' u' (by omega) (by omega) with ⟨q2, u2, a, b⟩ | z
      · refine Or.inl ⟨q2, u2, a, fun v c d => ?_⟩
        by_cases y : v = w
        · rw [y]; exact k
        · exact b v (by omega) d
      · exact Or.inr z
/-- a command is read, or none is there -/
theorem rc_R (T : mIt) (p : Int) : (∃ (q' : Int) (u' : Int → Int), rcR T p = (-1, cst T q' u') ∧ ∀ v : Int, 0 ≤ v → v ≤ 8 → ¬ cmP (sgV T) p v) ∨ (∃ (v : Int) (u' : Int → Int), 0 ≤ v ∧ v ≤ 8 ∧ cmP (sgV T) p v ∧ rcR T p = (v, cst T (rsN (sgV T) (p + kwL v) v) (rsW (sgV T) (p + kwL v) v u'))) := by
  have := rc_cst T p 9 0 (T 52 3) (T 54) (by omega) (by omega)
  rw [cst_self] at this
  exact this
