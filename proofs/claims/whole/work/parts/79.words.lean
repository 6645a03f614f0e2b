/-! ===== the mathematics: the word of a command, on the model's side ===== -/
def lrE (g : Int → Int) : Nat → Int → Int
  | 0, p => p
  | f + 1, p => if 97 ≤ g p ∧ g p ≤ 122 then lrE g f (p + 1) else p
theorem lr_s {g : Int → Int} (f : Nat) {p : Int} (h : 97 ≤ g p ∧ g p ≤ 122) : lrE g (f + 1) p = lrE g f (p + 1) := by rw [lrE, if_pos h]
theorem lr_e {g : Int → Int} (f : Nat) {p : Int} (h : ¬ (97 ≤ g p ∧ g p ≤ 122)) : lrE g f p = p := by
  cases f with
  | zero => rfl
  | succ f => rw [lrE, if_neg h]
theorem lr_rg (g : Int → Int) (L : Int) (hg : ∀ x : Int, L ≤ x → g x = -1) : ∀ (f : Nat) (p : Int), p ≤ L → p ≤ lrE g f p ∧ lrE g f p ≤ L := by
  intro f
  induction f with
  | zero => intro p h; exact ⟨Int.le_refl _, h⟩
  | succ f ih =>
    intro p h
    rw [lrE]
    split
    · rename_i k
      have : p < L := Classical.byContradiction (fun z => by have := hg p (by omega); omega)
      have := ih (p + 1) (by omega)
      omega
    · omega
theorem skF_cst (M : mIt) (u : Int → Int) : ∀ (f : Nat) (p : Int), 0 ≤ p → skF f (mst M p u) = mst M (lrE (gM M) f p) u := by
  intro f
  induction f with
  | zero => intro p _; rfl
  | succ f ih =>
    intro p hp
    rw [skF, lrE]
    by_cases h : 97 ≤ gM M p ∧ gM M p ≤ 122
    · rw [if_pos ((at_cst M u hp (by omega)).mpr h), if_pos h, mst_p, mst_9, ih (p + 1) (by omega)]
    · rw [at_no M u hp (by omega) h, if_neg (by decide), if_neg h]
theorem wd_3 (M : mIt) (e p a b c : Int) (u : Int → Int) : wdB (mst M e u) p a b c 0 = true ↔ e - p = 3 ∧ w3P (M 160) p a b c := by
  unfold wdB w3P
  rw [mst_p, mst_x _ _ _ (by omega) (by omega), decide_eq_true_eq, if_neg (by omega)]
  constructor
  · rintro ⟨h1, h2, h3, h4, _⟩; exact ⟨h1, h2, h3, h4⟩
  · rintro ⟨h1, h2, h3, h4⟩; exact ⟨h1, h2, h3, h4, Or.inl rfl⟩
theorem wd_4 (M : mIt) (e p a b c d : Int) (u : Int → Int) (hd : 0 < d) : wdB (mst M e u) p a b c d = true ↔ e - p = 4 ∧ w4P (M 160) p a b c d := by
  unfold wdB w4P
  rw [mst_p, mst_x _ _ _ (by omega) (by omega), decide_eq_true_eq, if_pos hd]
  constructor
  · rintro ⟨h1, h2, h3, h4, h5⟩; exact ⟨h1, h2, h3, h4, by omega⟩
  · rintro ⟨h1, h2, h3, h4, h5⟩; exact ⟨h1, h2, h3, h4, Or.inr h5⟩
theorem wd_to {M : mIt} {e p w : Int} {u : Int → Int} (h : wdV (mst M e u) p = w) (h0 : 0 ≤ w) : w ≤ 8 ∧ e = p + kwL w ∧ kwP (M 160) p w := by
  unfold wdV at h
  by_cases c0 : wdB (mst M e u) p 97 100 100 0 = true
  · rw [if_pos c0] at h
    subst h
    obtain ⟨a, b⟩ := (wd_3 M e p 97 100 100 u).mp c0
    exact ⟨by omega, by unfold kwL; rw [if_pos (by omega)]; omega, by unfold kwP; rw [if_pos rfl]; exact b⟩
  rw [if_neg c0] at h
  by_cases c1 : wdB (mst M e u) p 115 117 98 0 = true
  · rw [if_pos c1] at h
    subst h
    obtain ⟨a, b⟩ := (wd_3 M e p 115 117 98 u).mp c1
    exact ⟨by omega, by unfold kwL; rw [if_pos (by omega)]; omega, by unfold kwP; rw [if_neg (by omega), if_pos rfl]; exact b⟩
  rw [if_neg c1] at h
  by_cases c2 : wdB (mst M e u) p 109 117 108 0 = true
  · rw [if_pos c2] at h
    subst h
    obtain ⟨a, b⟩ := (wd_3 M e p 109 117 108 u).mp c2
    exact ⟨by omega, by unfold kwL; rw [if_pos (by omega)]; omega, by unfold kwP; rw [if_neg (by omega), if_neg (by omega), if_pos rfl]; exact b⟩
  rw [if_neg c2] at h
  by_cases c3 : wdB (mst M e u) p 112 117 116 0 = true
  · rw [if_pos c3] at h
    subst h
    obtain ⟨a, b⟩ := (wd_3 M e p 112 117 116 u).mp c3
    exact ⟨by omega, by unfold kwL; rw [if_pos (by omega)]; omega, by unfold kwP; rw [if_neg (by omega), if_neg (by omega), if_neg (by omega), if_pos rfl]; exact b⟩
  rw [if_neg c3] at h
  by_cases c4 : wdB (mst M e u) p 99 111 112 121 = true
  · rw [if_pos c4] at h
    subst h
    obtain ⟨a, b⟩ := (wd_4 M e p 99 111 112 121 u (by omega)).mp c4
    exact ⟨by omega, by unfold kwL; rw [if_neg (by omega)]; omega, by unfold kwP; rw [if_neg (by omega), if_neg (by omega), if_neg (by omega), if_neg (by omega), if_pos rfl]; exact b⟩
  rw [if_neg c4] at h
  by_cases c5 : wdB (mst M e u) p 116 105 99 107 = true
  · rw [if_pos c5] at h
    subst h
    obtain ⟨a, b⟩ := (wd_4 M e p 116 105 99 107 u (by omega)).mp c5
    exact ⟨by omega, by unfold kwL; rw [if_neg (by omega)]; omega, by unfold kwP; rw [if_neg (by omega), if_neg (by omega), if_neg (by omega), if_neg (by omega), if_neg (by omega), if_pos rfl]; exact b⟩
  rw [if_neg c5] at h
  by_cases c6 : wdB (mst M e u) p 109 97 114 107 = true
  · rw [if_pos c6] at h
    subst h
    obtain ⟨a, b⟩ := (wd_4 M e p 109 97 114 107 u (by omega)).mp c6
    exact ⟨by omega, by unfold kwL; rw [if_neg (by omega)]; omega, by unfold kwP; rw [if_neg (by omega), if_neg (by omega), if_neg (by omega), if_neg (by omega), if_neg (by omega), if_neg (by omega), if_pos rfl]; exact b⟩
  rw [if_neg c6] at h
  by_cases c7 : wdB (mst M e u) p 107 101 101 112 = true
  · rw [if_pos c7] at h
    subst h
    obtain ⟨a, b⟩ := (wd_4 M e p 107 101 101 112 u (by omega)).mp c7
    exact ⟨by omega, by unfold kwL; rw [if_neg (by omega)]; omega, by unfold kwP; rw [if_neg (by omega), if_neg (by omega), if_neg (by omega), if_neg (by omega), if_neg (by omega), if_neg (by omega), if_neg (by omega), if_pos rfl]; exact b⟩
  rw [if_neg c7] at h
  by_cases c8 : wdB (mst M e u) p 98 97 99 107 = true
  · rw [if_pos c8] at h
    subst h
    obtain ⟨a, b⟩ := (wd_4 M e p 98 97 99 107 u (by omega)).mp c8
    exact ⟨by omega, by unfold kwL; rw [if_neg (by omega)]; omega, by unfold kwP; rw [if_neg (by omega), if_neg (by omega), if_neg (by omega), if_neg (by omega), if_neg (by omega), if_neg (by omega), if_neg (by omega), if_neg (by omega)]; exact b⟩
  rw [if_neg c8] at h
  omega
theorem wd_fr {M : mIt} {e p w : Int} {u : Int → Int} (h0 : 0 ≤ w) (h8 : w ≤ 8) (he : e = p + kwL w) (hk : kwP (M 160) p w) : wdV (mst M e u) p = w := by
  have h : w = 0 ∨ w = 1 ∨ w = 2 ∨ w = 3 ∨ w = 4 ∨ w = 5 ∨ w = 6 ∨ w = 7 ∨ w = 8 := by omega
  unfold wdV
  rcases h with h | h | h | h | h | h | h | h | h <;> subst h
  · unfold kwP at hk
    rw [if_pos rfl] at hk
    unfold kwL at he
    rw [if_pos (by omega)] at he
    have hk' := hk
    unfold w3P at hk'
    rw [if_pos ((wd_3 M e p 97 100 100 u).mpr ⟨by omega, hk⟩)]
  · unfold kwP at hk
    rw [if_neg (by omega), if_pos rfl] at hk
    unfold kwL at he
    rw [if_pos (by omega)] at he
    have hk' := hk
    unfold w3P at hk'
    rw [if_neg (fun z => by have q := (wd_3 M e p 97 100 100 u).mp z; unfold w3P at q; omega), if_pos ((wd_3 M e p 115 117 98 u).mpr ⟨by omega, hk⟩)]
  · unfold kwP at hk
    rw [if_neg (by omega), if_neg (by omega), if_pos rfl] at hk
    unfold kwL at he
    rw [if_pos (by omega)] at he
    have hk' := hk
    unfold w3P at hk'
    rw [if_neg (fun z => by have q := (wd_3 M e p 97 100 100 u).mp z; unfold w3P at q; omega), if_neg (fun z => by have q := (wd_3 M e p 115 117 98 u).mp z; unfold w3P at q; omega), if_pos ((wd_3 M e p 109 117 108 u).mpr ⟨by omega, hk⟩)]
  · unfold kwP at hk
    rw [if_neg (by omega), if_neg (by omega), if_neg (by omega), if_pos rfl] at hk
    unfold kwL at he
    rw [if_pos (by omega)] at he
    have hk' := hk
    unfold w3P at hk'
    rw [if_neg (fun z => by have q := (wd_3 M e p 97 100 100 u).mp z; unfold w3P at q; omega), if_neg (fun z => by have q := (wd_3 M e p 115 117 98 u).mp z; unfold w3P at q; omega), if_neg (fun z => by have q := (wd_3 M e p 109 117 108 u).mp z; unfold w3P at q; omega), if_pos ((wd_3 M e p 112 117 116 u).mpr ⟨by omega, hk⟩)]
  · unfold kwP at hk
    rw [if_neg (by omega), if_neg (by omega), if_neg (by omega), if_neg (by omega), if_pos rfl] at hk
    unfold kwL at he
    rw [if_neg (by omega)] at he
    have hk' := hk
    unfold w4P at hk'
    rw [if_neg (fun z => by have q := (wd_3 M e p 97 100 100 u).mp z; unfold w3P at q; omega), if_neg (fun z => by have q := (wd_3 M e p 115 117 98 u).mp z; unfold w3P at q; omega), if_neg (fun z => by have q := (wd_3 M e p 109 117 108 u).mp z; unfold w3P at q; omega), if_neg (fun z => by have q := (wd_3 M e p 112 117 116 u).mp z; unfold w3P at q; omega), if_pos ((wd_4 M e p 99 111 112 121 u (by omega)).mpr ⟨by omega, hk⟩)]
  · unfold kwP at hk
    rw [if_neg (by omega), if_neg (by omega), if_neg (by omega), if_neg (by omega), if_neg (by omega), if_pos rfl] at hk
    unfold kwL at he
    rw [if_neg (by omega)] at he
    have hk' := hk
    unfold w4P at hk'
    rw [if_neg (fun z => by have q := (wd_3 M e p 97 100 100 u).mp z; unfold w3P at q; omega), if_neg (fun z => by have q := (wd_3 M e p 115 117 98 u).mp z; unfold w3P at q; omega), if_neg (fun z => by have q := (wd_3 M e p 109 117 108 u).mp z; unfold w3P at q; omega), if_neg (fun z => by have q := (wd_3 M e p 112 117 116 u).mp z; unfold w3P at q; omega), if_neg (fun z => by have q := (wd_4 M e p 99 111 112 121 u (by omega)).mp z; unfold w4P at q; omega), if_pos ((wd_4 M e p 116 105 99 107 u (by omega)).mpr ⟨by omega, hk⟩)]
  · unfold kwP at hk
    rw [if_neg (by omega), if_neg (by omega), if_neg (by omega), if_neg (by omega), if_neg (by omega), if_neg (by omega), if_pos rfl] at hk
    unfold kwL at he
    rw [if_neg (by omega)] at he
    have hk' := hk
    unfold w4P at hk'
    rw [if_neg (fun z => by have q := (wd_3 M e p 97 100 100 u).mp z; unfold w3P at q; omega), if_neg (fun z => by have q := (wd_3 M e p 115 117 98 u).mp z; unfold w3P at q; omega), if_neg (fun z => by have q := (wd_3 M e p 109 117 108 u).mp z; unfold w3P at q; omega), if_neg (fun z => by have q := (wd_3 M e p 112 117 116 u).mp z; unfold w3P at q; omega), if_neg (fun z => by have q := (wd_4 M e p 99 111 112 121 u (by omega)).mp z; unfold w4P at q; omega), if_neg (fun z => by have q := (wd_4 M e p 116 105 99 107 u (by omega)).mp z; unfold w4P at q; omega), if_pos ((wd_4 M e p 109 97 114 107 u (by omega)).mpr ⟨by omega, hk⟩)]
  · unfold kwP at hk
    rw [if_neg (by omega), if_neg (by omega), if_neg (by omega), if_neg (by omega), if_neg (by omega), if_neg (by omega), if_neg (by omega), if_pos rfl] at hk
    unfold kwL at he
    rw [if_neg (by omega)] at he
    have hk' := hk
    unfold w4P at hk'
    rw [if_neg (fun z => by have q := (wd_3 M e p 97 100 100 u).mp z; unfold w3P at q; omega), if_neg (fun z => by have q := (wd_3 M e p 115 117 98 u).mp z; unfold w3P at q; omega), if_neg (fun z => by have q := (wd_3 M e p 109 117 108 u).mp z; unfold w3P at q; omega), if_neg (fun z => by have q := (wd_3 M e p 112 117 116 u).mp z; unfold w3P at q; omega), if_neg (fun z => by have q := (wd_4 M e p 99 111 112 121 u (by omega)).mp z; unfold w4P at q; omega), if_neg (fun z => by have q := (wd_4 M e p 116 105 99 107 u (by omega)).mp z; unfold w4P at q; omega), if_neg (fun z => by have q := (wd_4 M e p 109 97 114 107 u (by omega)).mp z; unfold w4P at q; omega), if_pos ((wd_4 M e p 107 101 101 112 u (by omega)).mpr ⟨by omega, hk⟩)]
  · unfold kwP at hk
    rw [if_neg (by omega), if_neg (by omega), if_neg (by omega), if_neg (by omega), if_neg (by omega), if_neg (by omega), if_neg (by omega), if_neg (by omega)] at hk
    unfold kwL at he
    rw [if_neg (by omega)] at he
    have hk' := hk
    unfold w4P at hk'
    rw [if_neg (fun z => by have q := (wd_3 M e p 97 100 100 u).mp z; unfold w3P at q; omega), if_neg (fun z => by have q := (wd_3 M e p 115 117 98 u).mp z; unfold w3P at q; omega), if_neg (fun z => by have q := (wd_3 M e p 109 117 108 u).mp z; unfold w3P at q; omega), if_neg (fun z => by have q := (wd_3 M e p 112 117 116 u).mp z; unfold w3P at q; omega), if_neg (fun z => by have q := (wd_4 M e p 99 111 112 121 u (by omega)).mp z; unfold w4P at q; omega), if_neg (fun z => by have q := (wd_4 M e p 116 105 99 107 u (by omega)).mp z; unfold w4P at q; omega), if_neg (fun z => by have q := (wd_4 M e p 109 97 114 107 u (by omega)).mp z; unfold w4P at q; omega), if_neg (fun z => by have q := (wd_4 M e p 107 101 101 112 u (by omega)).mp z; unfold w4P at q; omega), if_pos ((wd_4 M e p 98 97 99 107 u (by omega)).mpr ⟨by omega, hk⟩)]
/-- letters of a word -/
theorem kw_rg {g : Int → Int} {p w : Int} (h0 : 0 ≤ w) (h8 : w ≤ 8) (hk : kwP g p w) : ∀ j : Int, 0 ≤ j → j < kwL w → 97 ≤ g (p + j) ∧ g (p + j) ≤ 122 := by
  intro j j0 j1
  have hj : j = 0 ∨ j = 1 ∨ j = 2 ∨ j = 3 := by unfold kwL at j1; split at j1 <;> omega
  have h : w = 0 ∨ w = 1 ∨ w = 2 ∨ w = 3 ∨ w = 4 ∨ w = 5 ∨ w = 6 ∨ w = 7 ∨ w = 8 := by omega
  rcases h with h | h | h | h | h | h | h | h | h <;> subst h
  · unfold kwP at hk
    rw [if_pos rfl] at hk
    unfold kwL at j1
    rw [if_pos (by omega)] at j1
    unfold w3P at hk
    rcases hj with hj | hj | hj | hj <;> subst hj
    · rw [show p + 0 = p by omega]; omega
    · omega
    · omega
    · omega
  · unfold kwP at hk
    rw [if_neg (by omega), if_pos rfl] at hk
    unfold kwL at j1
    rw [if_pos (by omega)] at j1
    unfold w3P at hk
    rcases hj with hj | hj | hj | hj <;> subst hj
    · rw [show p + 0 = p by omega]; omega
    · omega
    · omega
    · omega
  · unfold kwP at hk
    rw [if_neg (by omega), if_neg (by omega), if_pos rfl] at hk
    unfold kwL at j1
    rw [if_pos (by omega)] at j1
    unfold w3P at hk
    rcases hj with hj | hj | hj | hj <;> subst hj
    · rw [show p + 0 = p by omega]; omega
    · omega
    · omega
    · omega
  · unfold kwP at hk
    rw [if_neg (by omega), if_neg (by omega), if_neg (by omega), if_pos rfl] at hk
    unfold kwL at j1
    rw [if_pos (by omega)] at j1
    unfold w3P at hk
    rcases hj with hj | hj | hj | hj <;> subst hj
    · rw [show p + 0 = p by omega]; omega
    · omega
    · omega
    · omega
  · unfold kwP at hk
    rw [if_neg (by omega), if_neg (by omega), if_neg (by omega), if_neg (by omega), if_pos rfl] at hk
    unfold kwL at j1
    rw [if_neg (by omega)] at j1
    unfold w4P at hk
    rcases hj with hj | hj | hj | hj <;> subst hj
    · rw [show p + 0 = p by omega]; omega
    · omega
    · omega
    · omega
  · unfold kwP at hk
    rw [if_neg (by omega), if_neg (by omega), if_neg (by omega), if_neg (by omega), if_neg (by omega), if_pos rfl] at hk
    unfold kwL at j1
    rw [if_neg (by omega)] at j1
    unfold w4P at hk
    rcases hj with hj | hj | hj | hj <;> subst hj
    · rw [show p + 0 = p by omega]; omega
    · omega
    · omega
    · omega
  · unfold kwP at hk
    rw [if_neg (by omega), if_neg (by omega), if_neg (by omega), if_neg (by omega), if_neg (by omega), if_neg (by omega), if_pos rfl] at hk
    unfold kwL at j1
    rw [if_neg (by omega)] at j1
    unfold w4P at hk
    rcases hj with hj | hj | hj | hj <;> subst hj
    · rw [show p + 0 = p by omega]; omega
    · omega
    · omega
    · omega
  · unfold kwP at hk
    rw [if_neg (by omega), if_neg (by omega), if_neg (by omega), if_neg (by omega), if_neg (by omega), if_neg (by omega), if_neg (by omega), if_pos rfl] at hk
    unfold kwL at j1
    rw [if_neg (by omega)] at j1
    unfold w4P at hk
    rcases hj with hj | hj | hj | hj <;> subst hj
    · rw [show p + 0 = p by omega]; omega
    · omega
    · omega
    · omega
  · unfold kwP at hk
    rw [if_neg (by omega), if_neg (by omega), if_neg (by omega), if_neg (by omega), if_neg (by omega), if_neg (by omega), if_neg (by omega), if_neg (by omega)] at hk
    unfold kwL at j1
    rw [if_neg (by omega)] at j1
    unfold w4P at hk
    rcases hj with hj | hj | hj | hj <;> subst hj
    · rw [show p + 0 = p by omega]; omega
    · omega
    · omega
    · omega
theorem kw_congr {g g' : Int → Int} {p w : Int} (h0 : 0 ≤ w) (h8 : w ≤ 8) (hg : ∀ j : Int, 0 ≤ j → j < kwL w → g' (p + j) = g (p + j)) (hk : kwP g p w) : kwP g' p w := by
  have h : w = 0 ∨ w = 1 ∨ w = 2 ∨ w = 3 ∨ w = 4 ∨ w = 5 ∨ w = 6 ∨ w = 7 ∨ w = 8 := by omega
  have e0 := hg 0 (by omega) (by unfold kwL; split <;> omega)
  have e1 := hg 1 (by omega) (by unfold kwL; split <;> omega)
  have e2 := hg 2 (by omega) (by unfold kwL; split <;> omega)
  rw [show p + 0 = p by omega] at e0
  rcases h with h | h | h | h | h | h | h | h | h <;> subst h
  · unfold kwP at hk ⊢
    rw [if_pos rfl] at hk
    rw [if_pos rfl]
    unfold w3P at hk ⊢
    rw [e0, e1, e2]; exact hk
  · unfold kwP at hk ⊢
    rw [if_neg (by omega), if_pos rfl] at hk
    rw [if_neg (by omega), if_pos rfl]
    unfold w3P at hk ⊢
    rw [e0, e1, e2]; exact hk
  · unfold kwP at hk ⊢
    rw [if_neg (by omega), if_neg (by omega), if_pos rfl] at hk
    rw [if_neg (by omega), if_neg (by omega), if_pos rfl]
    unfold w3P at hk ⊢
    rw [e0, e1, e2]; exact hk
  · unfold kwP at hk ⊢
    rw [if_neg (by omega), if_neg (by omega), if_neg (by omega), if_pos rfl] at hk
    rw [if_neg (by omega), if_neg (by omega), if_neg (by omega), if_pos rfl]
    unfold w3P at hk ⊢
    rw [e0, e1, e2]; exact hk
  · unfold kwP at hk ⊢
    rw [if_neg (by omega), if_neg (by omega), if_neg (by omega), if_neg (by omega), if_pos rfl] at hk
    rw [if_neg (by omega), if_neg (by omega), if_neg (by omega), if_neg (by omega), if_pos rfl]
    have e3 := hg 3 (by omega) (by unfold kwL; rw [if_neg (by omega)]; omega)
    unfold w4P at hk ⊢
    rw [e0, e1, e2, e3]; exact hk
  · unfold kwP at hk ⊢
    rw [if_neg (by omega), if_neg (by omega), if_neg (by omega), if_neg (by omega), if_neg (by omega), if_pos rfl] at hk
    rw [if_neg (by omega), if_neg (by omega), if_neg (by omega), if_neg (by omega), if_neg (by omega), if_pos rfl]
    have e3 := hg 3 (by omega) (by unfold kwL; rw [if_neg (by omega)]; omega)
    unfold w4P at hk ⊢
    rw [e0, e1, e2, e3]; exact hk
  · unfold kwP at hk ⊢
    rw [if_neg (by omega), if_neg (by omega), if_neg (by omega), if_neg (by omega), if_neg (by omega), if_neg (by omega), if_pos rfl] at hk
    rw [if_neg (by omega), if_neg (by omega), if_neg (by omega), if_neg (by omega), if_neg (by omega), if_neg (by omega), if_pos rfl]
    have e3 := hg 3 (by omega) (by unfold kwL; rw [if_neg (by omega)]; omega)
    unfold w4P at hk ⊢
    rw [e0, e1, e2, e3]; exact hk
  · unfold kwP at hk ⊢
    rw [if_neg (by omega), if_neg (by omega), if_neg (by omega), if_neg (by omega), if_neg (by omega), if_neg (by omega), if_neg (by omega), if_pos rfl] at hk
    rw [if_neg (by omega), if_neg (by omega), if_neg (by omega), if_neg (by omega), if_neg (by omega), if_neg (by omega), if_neg (by omega), if_pos rfl]
    have e3 := hg 3 (by omega) (by unfold kwL; rw [if_neg (by omega)]; omega)
    unfold w4P at hk ⊢
    rw [e0, e1, e2, e3]; exact hk
  · unfold kwP at hk ⊢
    rw [if_neg (by omega), if_neg (by omega), if_neg (by omega), if_neg (by omega), if_neg (by omega), if_neg (by omega), if_neg (by omega), if_neg (by omega)] at hk
    rw [if_neg (by omega), if_neg (by omega), if_neg (by omega), if_neg (by omega), if_neg (by omega), if_neg (by omega), if_neg (by omega), if_neg (by omega)]
    have e3 := hg 3 (by omega) (by unfold kwL; rw [if_neg (by omega)]; omega)
    unfold w4P at hk ⊢
    rw [e0, e1, e2, e3]; exact hk
theorem rs_first {g : Int → Int} {e w : Int} (h : rsP g e w) : g e = 32 ∨ g e = 59 := by
  unfold rsP at h
  split at h
  · exact Or.inl h.1
  · split at h
    · exact Or.inl h.1
    · split at h
      · exact Or.inl h.1
      · split at h
        · exact Or.inr h
        · exact Or.inl h.1
theorem rs_last {g : Int → Int} {e w : Int} (h : rsP g e w) : e < rsN g e w ∧ g (rsN g e w - 1) = 59 := by
  unfold rsP at h
  unfold rsN
  by_cases a : w < 3
  · rw [if_pos a] at h ⊢
    rw [show e + 7 - 1 = e + 6 by omega]
    exact ⟨by omega, h.2.2.2.2.2.2⟩
  rw [if_neg a] at h ⊢
  by_cases b : w = 3
  · rw [if_pos b] at h ⊢
    rw [show (nuE g 4 (e + 3) 0).2 + 1 - 1 = (nuE g 4 (e + 3) 0).2 by omega]
    exact ⟨by omega, h.2.2.2.2⟩
  rw [if_neg b] at h ⊢
  by_cases c : w = 4
  · rw [if_pos c] at h ⊢
    rw [show e + 5 - 1 = e + 4 by omega]
    exact ⟨by omega, h.2.2.2.2⟩
  rw [if_neg c] at h ⊢
  by_cases d : w = 6 ∨ w = 7
  · rw [if_pos d] at h ⊢
    rw [show e + 1 - 1 = e by omega]
    exact ⟨by omega, h⟩
  rw [if_neg d] at h ⊢
  rw [show (nuE g 4 (e + 1) 0).2 + 1 - 1 = (nuE g 4 (e + 1) 0).2 by omega]
  exact ⟨by omega, h.2.2⟩
theorem lr_kw {g : Int → Int} {p w : Int} (h0 : 0 ≤ w) (h8 : w ≤ 8) (hk : kwP g p w) (hr : g (p + kwL w) = 32 ∨ g (p + kwL w) = 59) : lrE g 80 p = p + kwL w := by
  have l := kw_rg h0 h8 hk
  have e0 := l 0 (by omega) (by unfold kwL; split <;> omega)
  have e1 := l 1 (by omega) (by unfold kwL; split <;> omega)
  have e2 := l 2 (by omega) (by unfold kwL; split <;> omega)
  rw [show p + 0 = p by omega] at e0
  rw [lr_s 79 e0, lr_s 78 e1, show p + 1 + 1 = p + 2 by omega, lr_s 77 e2, show p + 2 + 1 = p + 3 by omega]
  by_cases a : w < 4
  · have k : kwL w = 3 := by unfold kwL; rw [if_pos a]
    rw [k] at hr ⊢
    exact lr_e 77 (by omega)
  · have k : kwL w = 4 := by unfold kwL; rw [if_neg a]
    have e3 := l 3 (by omega) (by omega)
    rw [k] at hr ⊢
    rw [lr_s 76 e3, show p + 3 + 1 = p + 4 by omega]
    exact lr_e 76 (by omega)
/-- a command is read on the model's side as well, or none is there -/
theorem pl_yes {M : mIt} {p v : Int} (hp : M 155 9 = p) (p0 : 0 ≤ p) (h0 : 0 ≤ v) (h8 : v ≤ 8) (hc : cmP (gM M) p v) : plW M = v ∧ plK M = true ∧ plB M = mst M (rsN (gM M) (p + kwL v) v) (rsW (gM M) (p + kwL v) v (M 162)) := by
  obtain ⟨hk, hr⟩ := hc
  have e := lr_kw h0 h8 hk (rs_first hr)
  have k0 : 0 ≤ kwL v := by unfold kwL; split <;> omega
  have eA : plA M = mst M (p + kwL v) (M 162) := by
    unfold plA
    conv => lhs; rw [← mst_self M]
    rw [hp, skF_cst M _ 80 p p0, e]
  have hk' : kwP (M 160) p v := kw_congr h0 h8 (fun j a b => by have := kw_rg h0 h8 hk j a b; exact gM_at (by omega)) hk
  have eW : plW M = v := by
    unfold plW
    rw [eA, hp]
    exact wd_fr h0 h8 rfl hk'
  obtain ⟨f1, f2⟩ := (fq_R M (p := p + kwL v) (w := v) (M 162) (by omega) ⟨h0, h8⟩).1 hr
  refine ⟨eW, ?_, ?_⟩
  · unfold plK
    rw [eW, eA, f1, decide_eq_true h0]; rfl
  · unfold plB
    rw [eW, if_neg (by omega), eA, f2]
theorem pl_no {M : mIt} {p : Int} (hp : M 155 9 = p) (p0 : 0 ≤ p) (pL : p ≤ M 155 7) (hc : ∀ v : Int, 0 ≤ v → v ≤ 8 → ¬ cmP (gM M) p v) : plK M = false ∧ ∃ (q : Int) (u : Int → Int), 0 ≤ q ∧ plB M = mst M q u := by
  have hL := lr_rg (gM M) (M 155 7) (fun x h => by unfold gM; rw [if_neg (by omega)]) 80 p pL
  have eA : plA M = mst M (lrE (gM M) 80 p) (M 162) := by
    unfold plA
    conv => lhs; rw [← mst_self M]
    rw [hp, skF_cst M _ 80 p p0]
  by_cases w0 : plW M < 0
  · refine ⟨?_, lrE (gM M) 80 p, M 162, by omega, ?_⟩
    · unfold plK
      rw [decide_eq_false (by omega)]; rfl
    · unfold plB
      rw [if_pos w0, eA]
  · have eW : wdV (mst M (lrE (gM M) 80 p) (M 162)) p = plW M := by unfold plW; rw [eA, hp]
    obtain ⟨w8, we, wk⟩ := wd_to eW (by omega)
    have hk : kwP (gM M) p (plW M) := kw_congr (by omega) w8 (fun j a b => by
      unfold gM
      rw [if_pos (by omega)]) wk
    have hr : ¬ rsP (gM M) (p + kwL (plW M)) (plW M) := fun z => hc (plW M) (by omega) w8 ⟨hk, z⟩
    have k0 : 0 ≤ kwL (plW M) := by unfold kwL; split <;> omega
    obtain ⟨f1, q, u, q0, f2⟩ := (fq_R M (p := p + kwL (plW M)) (w := plW M) (M 162) (by omega) ⟨by omega, w8⟩).2 hr
    rw [we] at eA
    refine ⟨?_, q, u, q0, ?_⟩
    · unfold plK
      rw [eA, f1, Bool.and_false]
    · unfold plB
      rw [if_neg w0, eA, f2]
