/-! ===== the mathematics: orders are done ===== -/
/-- where the model's order p lies in the room, after i orders are looked at and k of them are kept -/
def phD (i k : Nat) : Int → Int := fun p => if p < (k : Int) then p else p + ((i : Int) - (k : Int))
theorem drS_at {s : Int → Int} {n k : Nat} (hk : k < n) : drS s n k 3 = (n : Int) - 1 ∧ (∀ i : Int, i ≠ 3 → i < 111 + 7 * (k : Int) → drS s n k i = s i) ∧ (∀ p w : Int, (k : Int) ≤ p → p < (n : Int) - 1 → 0 ≤ w → w < 7 → drS s n k (111 + 7 * p + w) = s (111 + 7 * (p + 1) + w)) := by
  refine ⟨?_, fun i a1 a2 => ?_, fun p w a1 a2 a3 a4 => ?_⟩
  · unfold drS drJ; rw [if_pos rfl]
  · unfold drS drJ; rw [if_neg a1, if_neg (by omega)]
  · unfold drS drJ; rw [if_neg (by omega), if_pos (by omega), show 111 + 7 * p + w + 7 = 111 + 7 * (p + 1) + w by omega]
/-- an order is done: its version is known, the others move up -/
theorem done_R {M : mIt} {b n k i : Nat} {s : Int → Int} {T : Int} (h : Rg (T + 1) T (phD i k) M b s) (hs1 : s 1 = T + 1) (hn : s 3 = n) (hk : k < n) (hki : k ≤ i) (hT0 : 0 ≤ T) (hdue : 0 ≤ s (111 + 7 * (k : Int) + 4) ∧ s (111 + 7 * (k : Int) + 4) ≤ T + 1) :
    Rg (T + 1) T (phD (i + 1) k) M b (dnT s n k) ∧ dnT s n k 3 = (n : Int) - 1 ∧ dnT s n k 4 = s 4 + 1 ∧ (∀ j : Int, j < 12 → j ≠ 3 → j ≠ 4 → dnT s n k j = s j) ∧ (∀ p : Int, 0 ≤ p → p < k → dnT s n k (111 + 7 * p + 4) = s (111 + 7 * p + 4)) := by
  obtain ⟨hH, hN, hM, hO, hQ, hW, hV, eH, eN, eM, eO, eC, eD, hR⟩ := h
  have h7 := hH.1
  have hn6 := hH.2.2.2.1
  have ok := hO k (by omega) (by omega)
  have dk := eD k (by omega) (by omega)
  -- the order that is done
  obtain ⟨d3, dl, dm⟩ := drS_at (s := dnI s k) hk
  have i3 : ∀ j : Int, (j < 28 + 5 * s (111 + 7 * (k : Int) + 1) + 1 ∨ 28 + 5 * s (111 + 7 * (k : Int) + 1) + 3 < j) → dnI s k j = s j := fun j q => by
    unfold dnI ikS; rw [fset_ne _ _ (by omega), fset_ne _ _ (by omega), fset_ne _ _ (by omega)]
  have ix : dnI s k (28 + 5 * s (111 + 7 * (k : Int) + 1) + 1) = res (s (111 + 7 * (k : Int) + 0)) (s (28 + 5 * (s (111 + 7 * (k : Int) + 2)) + 1)) (s (28 + 5 * (s (111 + 7 * (k : Int) + 3)) + 1)) ∧ dnI s k (28 + 5 * s (111 + 7 * (k : Int) + 1) + 2) = 1 ∧ dnI s k (28 + 5 * s (111 + 7 * (k : Int) + 1) + 3) = -1 := by
    unfold dnI ikS
    rw [fset_ne _ _ (by omega), fset_ne _ _ (by omega), fset_at, fset_ne _ _ (by omega), fset_at, fset_at]
    exact ⟨rfl, rfl, rfl⟩
  have T4 : ∀ j : Int, j ≠ 4 → dnT s n k j = drS (dnI s k) n k j := fun j q => by unfold dnT; rw [fset_ne _ _ q]
  have t3 : dnT s n k 3 = (n : Int) - 1 := by rw [T4 3 (by omega), d3]
  have t4 : dnT s n k 4 = s 4 + 1 := by unfold dnT; rw [fset_at]
  have g : ∀ j : Int, j ≠ 3 → j ≠ 4 → j < 111 + 7 * (k : Int) → (j < 28 + 5 * s (111 + 7 * (k : Int) + 1) + 1 ∨ 28 + 5 * s (111 + 7 * (k : Int) + 1) + 3 < j) → dnT s n k j = s j := fun j q1 q2 q3 q4 => by
    rw [T4 j q2, dl j q1 q3, i3 j q4]
  have gs : ∀ p w : Int, (k : Int) ≤ p → p < (n : Int) - 1 → 0 ≤ w → w < 7 → dnT s n k (111 + 7 * p + w) = s (111 + 7 * (p + 1) + w) := fun p w a1 a2 a3 a4 => by
    rw [T4 _ (by omega), dm p w a1 a2 a3 a4, i3 _ (by omega)]
  have gx : dnT s n k (28 + 5 * s (111 + 7 * (k : Int) + 1) + 1) = res (s (111 + 7 * (k : Int) + 0)) (s (28 + 5 * (s (111 + 7 * (k : Int) + 2)) + 1)) (s (28 + 5 * (s (111 + 7 * (k : Int) + 3)) + 1)) ∧ dnT s n k (28 + 5 * s (111 + 7 * (k : Int) + 1) + 2) = 1 ∧ dnT s n k (28 + 5 * s (111 + 7 * (k : Int) + 1) + 3) = -1 := by
    rw [T4 _ (by omega), T4 _ (by omega), T4 _ (by omega), dl _ (by omega) (by omega), dl _ (by omega) (by omega), dl _ (by omega) (by omega)]; exact ix
  generalize hto : s (111 + 7 * (k : Int) + 1) = to at *
  generalize dnT s n k = t at *
  have gl : ∀ j : Int, j ≠ 3 → j ≠ 4 → j < 28 → t j = s j := fun j q1 q2 q3 => g j q1 q2 (by omega) (by omega)
  have gm : ∀ j : Int, 63 ≤ j → j < 111 → t j = s j := fun j q1 q2 => g j (by omega) (by omega) (by omega) (by omega)
  have glo : ∀ p w : Int, 0 ≤ p → p < k → 0 ≤ w → w < 7 → t (111 + 7 * p + w) = s (111 + 7 * p + w) := fun p w a1 a2 a3 a4 => g _ (by omega) (by omega) (by omega) (by omega)
  -- the order p of the new row is the order q p of the old one
  have go : ∀ p w : Int, 0 ≤ p → p < (n : Int) - 1 → 0 ≤ w → w < 7 → t (111 + 7 * p + w) = s (111 + 7 * (if p < (k : Int) then p else p + 1) + w) := fun p w a1 a2 a3 a4 => by
    by_cases q : p < (k : Int)
    · rw [if_pos q]; exact glo p w a1 q a3 a4
    · rw [if_neg q]; exact gs p w (by omega) a2 a3 a4
  have gc : ∀ c w : Int, 0 ≤ c → c ≠ to → 0 ≤ w → w ≤ 4 → c < 7 → t (28 + 5 * c + w) = s (28 + 5 * c + w) := fun c w a1 a2 a3 a4 a5 => g _ (by omega) (by omega) (by omega) (by omega)
  have gc0 : ∀ c w : Int, 0 ≤ c → (w = 0 ∨ w = 4) → c < 7 → t (28 + 5 * c + w) = s (28 + 5 * c + w) := fun c w a1 a2 a3 => g _ (by omega) (by omega) (by omega) (by omega)
  have z0 := gl 0 (by omega) (by omega) (by omega)
  have z1 := gl 1 (by omega) (by omega) (by omega)
  have z2 := gl 2 (by omega) (by omega) (by omega)
  have odt : ∀ c, ordP t c → ordP s c ∧ c ≠ to := by
    rintro c ⟨p, a1, a2, f⟩
    rw [t3] at a2
    rw [go p 1 a1 a2 (by omega) (by omega)] at f
    by_cases q : p < (k : Int)
    · rw [if_pos q] at f
      have := (hQ.1 p k a1 q (by omega)).2
      exact ⟨⟨p, a1, by omega, f⟩, by omega⟩
    · rw [if_neg q] at f
      have := (hQ.1 k (p + 1) (by omega) (by omega) (by omega)).2
      exact ⟨⟨p + 1, by omega, by omega, f⟩, by omega⟩
  have ods : ∀ c, c ≠ to → ordP s c → ordP t c := by
    rintro c cx ⟨p, a1, a2, f⟩
    by_cases q : p = (k : Int)
    · rw [q, hto] at f; exact absurd f.symm cx
    · by_cases q2 : p < (k : Int)
      · exact ⟨p, a1, by omega, by rw [go p 1 a1 (by omega) (by omega) (by omega), if_pos q2]; exact f⟩
      · exact ⟨p - 1, by omega, by omega, by rw [go (p - 1) 1 (by omega) (by omega) (by omega) (by omega), if_neg (by omega), show p - 1 + 1 = p by omega]; exact f⟩
  have rdt : ∀ c, redP t c → redP s c := by
    rintro c ⟨p, a1, a2, f⟩
    rw [t3] at a2
    rw [go p 2 a1 a2 (by omega) (by omega), go p 3 a1 a2 (by omega) (by omega)] at f
    exact ⟨_, by split <;> omega, by split <;> omega, f⟩
  have nd : ∀ c, need t c → need s c := by
    rintro c (⟨k, a1, a2, f⟩ | ⟨m, a1, a2, k, a3, a4, f⟩ | f | f)
    · exact Or.inl ⟨k, a1, a2, by rw [← gl _ (by omega) (by omega) (by omega)]; exact f⟩
    · rw [z2] at a2
      have := hH.2.2.1
      exact Or.inr (Or.inl ⟨m, a1, a2, k, a3, a4, by rw [← gm _ (by omega) (by omega)]; exact f⟩)
    · exact Or.inr (Or.inr (Or.inl (rdt c f)))
    · exact Or.inr (Or.inr (Or.inr (odt c f).1))
  have ordto : ordP s to := ⟨k, by omega, by omega, hto⟩
  have ndto : need s to := Or.inr (Or.inr (Or.inr ordto))
  -- what the done order read is known
  have rd1 : redP s (s (111 + 7 * (k : Int) + 2)) := ⟨k, by omega, by omega, Or.inl rfl⟩
  have rd2 : redP s (s (111 + 7 * (k : Int) + 3)) := ⟨k, by omega, by omega, Or.inr rfl⟩
  have knv : ∀ c, 0 ≤ c → c < s 0 → redP s c → s (28 + 5 * c + 2) = 1 → M (b + 6) c = s (28 + 5 * c + 1) := by
    intro c c0 c1 rc kc
    have := (eC c c0 c1 (Or.inr (Or.inr (Or.inl rc)))).2
    rcases this with q | q
    · omega
    · exact q.2.1
  have hm2 := hH.2.2.1
  unfold orR at dk
  rw [hto] at dk
  have dk1 : T < s (111 + 7 * (k : Int) + 4) ∧ M (b + 7) to = s (111 + 7 * (k : Int) + 4) ∧ s (28 + 5 * s (111 + 7 * (k : Int) + 2) + 2) = 1 ∧ s (28 + 5 * s (111 + 7 * (k : Int) + 3) + 2) = 1 := by
    rcases dk.1 with q | q
    · omega
    · exact ⟨q.1, q.2.2.1, q.2.2.2.1, q.2.2.2.2⟩
  have vto : M (b + 6) to = t (28 + 5 * to + 1) := by
    rw [gx.1, dk.2, knv _ (by omega) (by omega) rd1 dk1.2.2.1, knv _ (by omega) (by omega) rd2 dk1.2.2.2]
  refine ⟨⟨?_, ?_, ?_, ?_, ?_, ?_, ?_, ?_, ?_, ?_, ?_, ?_, ?_, hR⟩, t3, t4, fun j q1 q2 q3 => gl j q2 q3 (by omega), fun p a1 a2 => glo p 4 a1 a2 (by omega) (by omega)⟩
  · unfold IvH at *
    rw [z0, z1, z2, t3, gl 8 (by omega) (by omega) (by omega), gl 9 (by omega) (by omega) (by omega), gl 10 (by omega) (by omega) (by omega), gl 11 (by omega) (by omega) (by omega)]
    exact ⟨hH.1, hH.2.1, hH.2.2.1, by omega, hH.2.2.2.2⟩
  · intro k a1 a2
    rw [z0, gl _ (by omega) (by omega) (by omega), gl _ (by omega) (by omega) (by omega)]; exact hN k a1 a2
  · intro m k a1 a2 a3 a4
    rw [z2] at a2
    rw [z0, gm _ (by omega) (by omega), gm _ (by omega) (by omega)]; exact hM m k a1 a2 a3 a4
  · intro p a1 a2
    rw [t3] at a2
    rw [z0, z2, go p 0 a1 a2 (by omega) (by omega), go p 1 a1 a2 (by omega) (by omega), go p 2 a1 a2 (by omega) (by omega), go p 3 a1 a2 (by omega) (by omega), go p 5 a1 a2 (by omega) (by omega)]
    exact hO _ (by split <;> omega) (by split <;> omega)
  · refine ⟨fun j p a1 a2 a3 => ?_, fun p j a1 a2 a3 => ?_, fun m i p a1 a2 a3 a4 a5 a6 a7 => ?_⟩
    · rw [t3] at a3
      rw [go j 5 a1 (by omega) (by omega) (by omega), go j 1 a1 (by omega) (by omega) (by omega), go p 5 (by omega) a3 (by omega) (by omega), go p 1 (by omega) a3 (by omega) (by omega)]
      exact hQ.1 _ _ (by split <;> omega) (by split <;> split <;> omega) (by split <;> omega)
    · rw [t3] at a3
      rw [go p 2 a1 (by omega) (by omega) (by omega), go p 3 a1 (by omega) (by omega) (by omega), go j 1 (by omega) a3 (by omega) (by omega)]
      exact hQ.2.1 _ _ (by split <;> omega) (by split <;> split <;> omega) (by split <;> omega)
    · rw [t3] at a6
      rw [z2] at a2
      rw [go p 5 a5 a6 (by omega) (by omega)] at a7
      rw [gm _ (by omega) (by omega), go p 1 a5 a6 (by omega) (by omega)]
      exact hQ.2.2 m i _ a1 a2 a3 a4 (by split <;> omega) (by split <;> omega) a7
  · intro c a1 a2
    rw [z0] at a2
    rw [gc0 c 0 a1 (by omega) (by omega)]
    exact ⟨(hW c a1 a2).1, fun z => (hW c a1 a2).2 (nd c z)⟩
  · intro c a1 a2
    by_cases q : c = to
    · rw [q, gx.1]; exact res_rg _
    · rw [gc c 1 a1 q (by omega) (by omega) a2]; exact hV c a1 a2
  · unfold EqH at *
    rw [z0, z1, z2, gl 5 (by omega) (by omega) (by omega), gl 8 (by omega) (by omega) (by omega), gl 9 (by omega) (by omega) (by omega), gl 10 (by omega) (by omega) (by omega), gl 11 (by omega) (by omega) (by omega)]
    exact eH
  · intro k a1 a2
    rw [gl _ (by omega) (by omega) (by omega), gl _ (by omega) (by omega) (by omega)]; exact eN k a1 a2
  · intro m a1 a2 k a3 a4
    rw [z2] at a2
    rw [gm _ (by omega) (by omega), gm _ (by omega) (by omega)]; exact eM m a1 a2 k a3 a4
  · intro p a1 a2
    rw [t3] at a2
    rw [go p 0 a1 a2 (by omega) (by omega), go p 1 a1 a2 (by omega) (by omega), go p 2 a1 a2 (by omega) (by omega), go p 3 a1 a2 (by omega) (by omega), go p 5 a1 a2 (by omega) (by omega)]
    have e := eO (if p < (k : Int) then p else p + 1) (by split <;> omega) (by split <;> omega)
    have ph : phD i k (if p < (k : Int) then p else p + 1) = phD (i + 1) k p := by
      unfold phD
      by_cases q : p < (k : Int)
      · rw [if_pos q, if_pos q, if_pos q]
      · rw [if_neg q, if_neg (by omega), if_neg q]; omega
    rw [ph] at e
    exact e
  · intro c a1 a2 a3
    rw [z0] at a2
    have r := eC c a1 a2 (nd c a3)
    unfold chR at *
    rw [gl 7 (by omega) (by omega) (by omega), gc0 c 4 a1 (by omega) (by omega)]
    refine ⟨r.1, ?_⟩
    by_cases q : c = to
    · right
      subst q
      exact ⟨fun z => (odt _ z).2 rfl, vto, Or.inl ⟨gx.2.1, gx.2.2, by rw [dk1.2.1]; exact hdue.2⟩⟩
    · have e : ordP t c ↔ ordP s c := ⟨fun z => (odt c z).1, ods c q⟩
      rw [gc c 3 a1 q (by omega) (by omega) (by omega), gc c 2 a1 q (by omega) (by omega) (by omega), gc c 1 a1 q (by omega) (by omega) (by omega), e]
      exact r.2
  · intro p a1 a2
    rw [t3] at a2
    have r := eD (if p < (k : Int) then p else p + 1) (by split <;> omega) (by split <;> omega)
    have o := hO (if p < (k : Int) then p else p + 1) (by split <;> omega) (by split <;> omega)
    unfold orR at *
    rw [go p 0 a1 a2 (by omega) (by omega), go p 1 a1 a2 (by omega) (by omega), go p 2 a1 a2 (by omega) (by omega), go p 3 a1 a2 (by omega) (by omega), go p 4 a1 a2 (by omega) (by omega)]
    generalize (if p < (k : Int) then p else p + 1) = q at r o ⊢
    refine ⟨?_, r.2⟩
    have kk : ∀ c : Int, 0 ≤ c → c < s 0 → s (28 + 5 * c + 2) = 1 → t (28 + 5 * c + 2) = 1 := fun c c0 c1 c2 => by
      by_cases e : c = to
      · rw [e]; exact gx.2.1
      · rw [gc c 2 c0 e (by omega) (by omega) (by omega)]; exact c2
    rcases r.1 with q1 | ⟨q1, q2, q3, q4, q5⟩
    · exact Or.inl q1
    · exact Or.inr ⟨q1, q2, q3, kk _ (by omega) (by omega) q4, kk _ (by omega) (by omega) q5⟩
