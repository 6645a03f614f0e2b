/-! ===== the mathematics: a command is read, on the model's side ===== -/
def gM (M : mIt) (x : Int) : Int := if 0 ≤ x ∧ x < M 155 7 then M 160 x else -1
def mst (M : mIt) (p : Int) (w : Int → Int) : mIt := mUp (arS M 162 w) 155 9 p
theorem mst_self (M : mIt) : mst M (M 155 9) (M 162) = M := by
  funext x j
  simp only [mst, mUp, arS, fset]
  by_cases h : x = 155
  · subst h
    by_cases k : j = 9
    · subst k; simp [fset]
    · simp [k, fset]
  · by_cases l : x = 162
    · subst l; simp
    · simp [h, l]
theorem mst_9 (M : mIt) (p q : Int) (w : Int → Int) : mUp (mst M p w) 155 9 q = mst M q w := by
  funext x j
  simp only [mst, mUp, arS, fset]
  by_cases h : x = 155
  · subst h
    by_cases k : j = 9
    · subst k; simp [fset]
    · simp [k, fset]
  · simp [h]
theorem mst_162 (M : mIt) (p c v : Int) (w : Int → Int) : mUp (mst M p w) 162 c v = mst M p (fset w c v) := by
  funext x j
  simp only [mst, mUp, arS, fset]
  by_cases h : x = 155
  · subst h; simp
  · by_cases l : x = 162
    · subst l; simp
    · simp [h, l]
theorem mst_p (M : mIt) (p : Int) (w : Int → Int) : mst M p w 155 9 = p := by simp [mst, mUp, fset]
theorem mst_w (M : mIt) (p : Int) (w : Int → Int) : mst M p w 162 = w := by
  funext j; simp [mst, mUp, arS, fset]
theorem mst_x (M : mIt) (p : Int) (w : Int → Int) {x : Nat} (h : x ≠ 155) (h2 : x ≠ 162) : mst M p w x = M x := by
  funext j
  simp [mst, mUp, arS, fset, h, h2]
theorem mst_5 (M : mIt) (p : Int) (w : Int → Int) {j : Int} (h : j ≠ 9) : mst M p w 155 j = M 155 j := by
  simp [mst, mUp, arS, fset, h]
theorem mst_g (M : mIt) (p : Int) (w : Int → Int) : gM (mst M p w) = gM M := by
  funext x
  unfold gM
  rw [mst_5 _ _ _ (by omega), mst_x _ _ _ (by omega) (by omega)]
theorem at_cst (M : mIt) {p lo hi : Int} (w : Int → Int) (hp : 0 ≤ p) (hlo : 0 ≤ lo) : atB (mst M p w) lo hi = true ↔ lo ≤ gM M p ∧ gM M p ≤ hi := by
  unfold atB gM
  rw [mst_p, mst_5 _ _ _ (by omega), mst_x _ _ _ (by omega) (by omega), decide_eq_true_eq]
  by_cases h : p < M 155 7
  · rw [if_pos ⟨hp, h⟩]; exact ⟨fun z => z.2, fun z => ⟨h, z⟩⟩
  · rw [if_neg (fun z => h z.2)]; exact ⟨fun z => absurd z.1 h, fun z => by omega⟩
theorem at_no (M : mIt) {p lo hi : Int} (w : Int → Int) (hp : 0 ≤ p) (hlo : 0 ≤ lo) (h : ¬ (lo ≤ gM M p ∧ gM M p ≤ hi)) : atB (mst M p w) lo hi = false := by
  have := at_cst M (hi := hi) w hp hlo
  cases hb : atB (mst M p w) lo hi with
  | false => rfl
  | true => exact absurd (this.mp hb) h
theorem pa_yes (M : mIt) {p c : Int} (w : Int → Int) (hp : 0 ≤ p) (hc : 0 ≤ c) (h : gM M p = c) : atB (mst M p w) c c = true ∧ paI (mst M p w) c = mst M (p + 1) w := by
  have a : atB (mst M p w) c c = true := (at_cst M w hp hc).mpr (by omega)
  refine ⟨a, ?_⟩
  unfold paI
  rw [if_pos a, mst_p, mst_9]
theorem pa_no (M : mIt) {p c : Int} (w : Int → Int) (hp : 0 ≤ p) (hc : 0 ≤ c) (h : gM M p ≠ c) : atB (mst M p w) c c = false ∧ paI (mst M p w) c = mst M p w := by
  have a : atB (mst M p w) c c = false := at_no M w hp hc (by omega)
  refine ⟨a, ?_⟩
  unfold paI
  rw [a, if_neg (by decide)]
theorem gM_in {M : mIt} {p : Int} (h : gM M p ≠ -1) : 0 ≤ p ∧ p < M 155 7 := by
  unfold gM at h
  by_cases k : 0 ≤ p ∧ p < M 155 7
  · exact k
  · rw [if_neg k] at h; exact absurd rfl h
theorem gM_at {M : mIt} {p : Int} (h : gM M p ≠ -1) : M 160 p = gM M p := by
  have := gM_in h
  unfold gM
  rw [if_pos this]
/-- what a reading says of the model: if C holds it is read, else not -/
def rmR (b : Bool) (X : mIt) (M : mIt) (C : Prop) (n : Int) (w : Int → Int) : Prop := (C → b = true ∧ X = mst M n w) ∧ (¬ C → b = false ∧ ∃ (q : Int) (u : Int → Int), 0 ≤ q ∧ X = mst M q u)
theorem rm_iff {b : Bool} {X M : mIt} {C D : Prop} {n : Int} {w : Int → Int} (h : C ↔ D) (r : rmR b X M C n w) : rmR b X M D n w := ⟨fun d => r.1 (h.mpr d), fun d => r.2 (fun c => d (h.mp c))⟩
theorem rn_R (M : mIt) {p : Int} (k : Int) (w : Int → Int) (hp : 0 ≤ p) : rmR (rnB (mst M p w)) (rnI (mst M p w) k) M (gM M p = 32 ∧ (97 ≤ gM M (p + 1) ∧ gM M (p + 1) ≤ 104)) (p + 2) (fset w k (gM M (p + 1) - 97)) := by
  by_cases a : gM M p = 32
  · obtain ⟨a1, a2⟩ := pa_yes M w hp (by omega) a
    by_cases b : 97 ≤ gM M (p + 1) ∧ gM M (p + 1) ≤ 104
    · have b1 : rnB (mst M p w) = true := by unfold rnB; rw [a1, a2, (at_cst M w (by omega) (by omega)).mpr b]; rfl
      refine ⟨fun _ => ⟨b1, ?_⟩, fun z => absurd ⟨a, b⟩ z⟩
      unfold rnI
      rw [if_pos b1, a2, mst_p, mst_162, mst_9, mst_x _ _ _ (by omega) (by omega), gM_at (M := M) (p := p + 1) (by omega), show p + 1 + 1 = p + 2 by omega]
    · have b1 : rnB (mst M p w) = false := by unfold rnB; rw [a1, a2, at_no M w (by omega) (by omega) b]; rfl
      refine ⟨fun z => absurd z.2 b, fun _ => ⟨b1, p + 1, w, by omega, ?_⟩⟩
      unfold rnI
      rw [b1, if_neg (by decide), a2]
  · obtain ⟨a1, a2⟩ := pa_no M w hp (by omega) a
    have b1 : rnB (mst M p w) = false := by unfold rnB; rw [a1]; rfl
    refine ⟨fun z => absurd z.1 a, fun _ => ⟨b1, p, w, hp, ?_⟩⟩
    unfold rnI
    rw [b1, if_neg (by decide), a2]
theorem fset_2 {β : Type} (f : Int → β) (k : Int) (v u : β) : fset (fset f k v) k u = fset f k u := by
  funext j
  simp only [fset]
  by_cases h : j = k
  · rw [if_pos h, if_pos h]
  · rw [if_neg h, if_neg h, if_neg h]
theorem nuL_cst (M : mIt) (k : Int) : ∀ (f : Nat) (p : Int) (w : Int → Int), 0 ≤ p → nuL k f (mst M p w) = mst M (nuE (gM M) f p (w k)).2 (fset w k (nuE (gM M) f p (w k)).1) := by
  intro f
  induction f with
  | zero =>
    intro p w _
    rw [nuL, nuE]
    have : fset w k (w k) = w := by
      funext j
      simp only [fset]
      by_cases h : j = k
      · rw [if_pos h, h]
      · rw [if_neg h]
    simp only [this]
  | succ f ih =>
    intro p w hp
    rw [nuL, nuE]
    by_cases h : 48 ≤ gM M p ∧ gM M p ≤ 57
    · rw [if_pos ((at_cst M w hp (by omega)).mpr h), if_pos h]
      have e : nuT (mst M p w) k = mst M (p + 1) (fset w k (w k * 10 + gM M p - 48)) := by
        unfold nuT
        rw [mst_162, mst_9, mst_p, mst_w, mst_x _ _ _ (by omega) (by omega), gM_at (M := M) (p := p) (by omega), show 10 * w k = w k * 10 by omega]
      rw [e, ih (p + 1) _ (by omega), fset_at, fset_2]
    · rw [at_no M w hp (by omega) h, if_neg (by decide), if_neg h]
      have : fset w k (w k) = w := by
        funext j
        simp only [fset]
        by_cases h : j = k
        · rw [if_pos h, h]
        · rw [if_neg h]
      simp only [this]
theorem nu_R (M : mIt) {p : Int} (k : Int) (w : Int → Int) (hp : 0 ≤ p) : rmR (nuB (mst M p w) k) (nuI (mst M p w) k) M (gM M p = 32 ∧ p + 1 < (nuE (gM M) 4 (p + 1) 0).2) (nuE (gM M) 4 (p + 1) 0).2 (fset w k (nuE (gM M) 4 (p + 1) 0).1) := by
  by_cases a : gM M p = 32
  · obtain ⟨a1, a2⟩ := pa_yes M w hp (by omega) a
    have e : nuI (mst M p w) k = mst M (nuE (gM M) 4 (p + 1) 0).2 (fset w k (nuE (gM M) 4 (p + 1) 0).1) := by
      unfold nuI nu0
      rw [if_pos a1, a2, mst_162, nuL_cst M k 4 _ _ (by omega), fset_at, fset_2]
    have eb : nuB (mst M p w) k = decide (p + 1 < (nuE (gM M) 4 (p + 1) 0).2) := by
      unfold nuB
      rw [a1, e, a2, mst_p, mst_p]; rfl
    obtain ⟨n1, n2, n3⟩ := nuE_rg (gM M) 4 (p + 1) 0 (by omega)
    refine ⟨fun z => ⟨by rw [eb]; exact decide_eq_true z.2, e⟩, fun z => ⟨by rw [eb]; exact decide_eq_false (fun y => z ⟨a, y⟩), _, _, by omega, e⟩⟩
  · obtain ⟨a1, a2⟩ := pa_no M w hp (by omega) a
    refine ⟨fun z => absurd z.1 a, fun _ => ⟨?_, p, w, hp, ?_⟩⟩
    · unfold nuB; rw [a1]; rfl
    · unfold nuI; rw [a1, if_neg (by decide), a2]
/-- the last sign of a command -/
theorem fq_end {M : mIt} {X : Bool × mIt} {C D : Prop} {n : Int} {u : Int → Int} (r : rmR X.1 X.2 M C n u) (h : D ↔ C ∧ gM M n = 59) (hn : C → 0 ≤ n) : rmR (X.1 && atB X.2 59 59) (if X.1 = true then paI X.2 59 else X.2) M D (n + 1) u := by
  by_cases c : C
  · obtain ⟨b, e⟩ := r.1 c
    rw [b, e, if_pos rfl]
    by_cases d : gM M n = 59
    · obtain ⟨a1, a2⟩ := pa_yes M u (hn c) (by omega) d
      rw [a1, a2]
      exact ⟨fun _ => ⟨rfl, rfl⟩, fun z => absurd (h.mpr ⟨c, d⟩) z⟩
    · obtain ⟨a1, a2⟩ := pa_no M u (hn c) (by omega) d
      rw [a1, a2]
      exact ⟨fun z => absurd (h.mp z).2 d, fun _ => ⟨rfl, n, u, hn c, rfl⟩⟩
  · obtain ⟨b, q, v, q0, e⟩ := r.2 c
    rw [b, e, if_neg (by decide)]
    exact ⟨fun z => absurd (h.mp z).1 c, fun _ => ⟨rfl, q, v, q0, rfl⟩⟩
theorem fq_R (M : mIt) {p w : Int} (u : Int → Int) (hp : 0 ≤ p) (hw : 0 ≤ w ∧ w ≤ 8) : rmR (fqB (mst M p u) w) (fqI (mst M p u) w) M (rsP (gM M) p w) (rsN (gM M) p w) (rsW (gM M) p w u) := by
  unfold fqB fqI
  by_cases w6 : w = 6 ∨ w = 7
  · have e1 : rsP (gM M) p w ↔ gM M p = 59 := by unfold rsP; rw [if_neg (by omega), if_neg (by omega), if_neg (by omega), if_pos w6]
    have e2 : rsN (gM M) p w = p + 1 := by unfold rsN; rw [if_neg (by omega), if_neg (by omega), if_neg (by omega), if_pos w6]
    have e3 : rsW (gM M) p w u = u := by unfold rsW; rw [if_neg (by omega), if_neg (by omega), if_neg (by omega), if_pos w6]
    rw [e2, e3]
    have r : rmR (fqM (mst M p u) w).1 (fqM (mst M p u) w).2 M True p u := by rw [fqM_6 w6]; exact ⟨fun _ => ⟨rfl, rfl⟩, fun z => absurd trivial z⟩
    exact fq_end r (by rw [e1]; exact ⟨fun z => ⟨trivial, z⟩, fun z => z.2⟩) (fun _ => hp)
  by_cases w3 : w < 3
  · have e1 : rsP (gM M) p w ↔ (gM M p = 32 ∧ (97 ≤ gM M (p + 1) ∧ gM M (p + 1) ≤ 104) ∧ gM M (p + 2) = 32 ∧ (97 ≤ gM M (p + 3) ∧ gM M (p + 3) ≤ 104) ∧ gM M (p + 4) = 32 ∧ (97 ≤ gM M (p + 5) ∧ gM M (p + 5) ≤ 104) ∧ gM M (p + 6) = 59) := by unfold rsP; rw [if_pos w3]
    have e2 : rsN (gM M) p w = p + 6 + 1 := by unfold rsN; rw [if_pos w3]; omega
    have e3 : rsW (gM M) p w u = fset (fset (fset u 0 (gM M (p + 1) - 97)) 1 (gM M (p + 3) - 97)) 2 (gM M (p + 5) - 97) := by unfold rsW; rw [if_pos w3]
    rw [e2, e3]
    have r : rmR (fqM (mst M p u) w).1 (fqM (mst M p u) w).2 M ((gM M p = 32 ∧ (97 ≤ gM M (p + 1) ∧ gM M (p + 1) ≤ 104)) ∧ (gM M (p + 2) = 32 ∧ (97 ≤ gM M (p + 3) ∧ gM M (p + 3) ≤ 104)) ∧ (gM M (p + 4) = 32 ∧ (97 ≤ gM M (p + 5) ∧ gM M (p + 5) ≤ 104))) (p + 6) (fset (fset (fset u 0 (gM M (p + 1) - 97)) 1 (gM M (p + 3) - 97)) 2 (gM M (p + 5) - 97)) := by
      rw [fqM_2 w3]
      have q1 := rn_R M 0 u hp
      by_cases c1 : gM M p = 32 ∧ (97 ≤ gM M (p + 1) ∧ gM M (p + 1) ≤ 104)
      · obtain ⟨b1, x1⟩ := q1.1 c1
        rw [if_pos b1, x1]
        have q2 := rn_R M (p := p + 2) 1 (fset u 0 (gM M (p + 1) - 97)) (by omega)
        rw [show p + 2 + 1 = p + 3 by omega, show p + 2 + 2 = p + 4 by omega] at q2
        by_cases c2 : gM M (p + 2) = 32 ∧ (97 ≤ gM M (p + 3) ∧ gM M (p + 3) ≤ 104)
        · obtain ⟨b2, x2⟩ := q2.1 c2
          rw [if_pos b2, x2]
          have q3 := rn_R M (p := p + 4) 2 (fset (fset u 0 (gM M (p + 1) - 97)) 1 (gM M (p + 3) - 97)) (by omega)
          rw [show p + 4 + 1 = p + 5 by omega, show p + 4 + 2 = p + 6 by omega] at q3
          exact rm_iff ⟨fun z => ⟨c1, c2, z⟩, fun z => z.2.2⟩ q3
        · obtain ⟨b2, q, v, q0, x2⟩ := q2.2 c2
          rw [b2, if_neg (by decide), x2]
          exact ⟨fun z => absurd z.2.1 c2, fun _ => ⟨rfl, q, v, q0, rfl⟩⟩
      · obtain ⟨b1, q, v, q0, x1⟩ := q1.2 c1
        rw [b1, if_neg (by decide), x1]
        exact ⟨fun z => absurd z.1 c1, fun _ => ⟨rfl, q, v, q0, rfl⟩⟩
    exact fq_end r (by rw [e1]; simp only [and_assoc]) (fun _ => by omega)
  by_cases w5 : w < 5
  · by_cases w33 : w = 3
    · have e1 : rsP (gM M) p w ↔ (gM M p = 32 ∧ (97 ≤ gM M (p + 1) ∧ gM M (p + 1) ≤ 104) ∧ gM M (p + 2) = 32 ∧ p + 3 < (nuE (gM M) 4 (p + 3) 0).2 ∧ gM M (nuE (gM M) 4 (p + 3) 0).2 = 59) := by unfold rsP; rw [if_neg w3, if_pos w33]
      have e2 : rsN (gM M) p w = (nuE (gM M) 4 (p + 3) 0).2 + 1 := by unfold rsN; rw [if_neg w3, if_pos w33]
      have e3 : rsW (gM M) p w u = fset (fset u 0 (gM M (p + 1) - 97)) 1 (nuE (gM M) 4 (p + 3) 0).1 := by unfold rsW; rw [if_neg w3, if_pos w33]
      rw [e2, e3]
      have n1 := nuE_rg (gM M) 4 (p + 3) 0 (by omega)
      have r : rmR (fqM (mst M p u) w).1 (fqM (mst M p u) w).2 M ((gM M p = 32 ∧ (97 ≤ gM M (p + 1) ∧ gM M (p + 1) ≤ 104)) ∧ (gM M (p + 2) = 32 ∧ p + 3 < (nuE (gM M) 4 (p + 3) 0).2)) (nuE (gM M) 4 (p + 3) 0).2 (fset (fset u 0 (gM M (p + 1) - 97)) 1 (nuE (gM M) 4 (p + 3) 0).1) := by
        rw [fqM_4 (by omega) w5, if_pos w33]
        have q1 := rn_R M 0 u hp
        by_cases c1 : gM M p = 32 ∧ (97 ≤ gM M (p + 1) ∧ gM M (p + 1) ≤ 104)
        · obtain ⟨b1, x1⟩ := q1.1 c1
          rw [if_pos b1, x1]
          have q2 := nu_R M (p := p + 2) 1 (fset u 0 (gM M (p + 1) - 97)) (by omega)
          rw [show p + 2 + 1 = p + 3 by omega] at q2
          exact rm_iff ⟨fun z => ⟨c1, z⟩, fun z => z.2⟩ q2
        · obtain ⟨b1, q, v, q0, x1⟩ := q1.2 c1
          rw [b1, if_neg (by decide), x1]
          exact ⟨fun z => absurd z.1 c1, fun _ => ⟨rfl, q, v, q0, rfl⟩⟩
      exact fq_end r (by rw [e1]; simp only [and_assoc]) (fun _ => by omega)
    · have e1 : rsP (gM M) p w ↔ (gM M p = 32 ∧ (97 ≤ gM M (p + 1) ∧ gM M (p + 1) ≤ 104) ∧ gM M (p + 2) = 32 ∧ (97 ≤ gM M (p + 3) ∧ gM M (p + 3) ≤ 104) ∧ gM M (p + 4) = 59) := by unfold rsP; rw [if_neg w3, if_neg w33, if_pos (by omega)]
      have e2 : rsN (gM M) p w = p + 4 + 1 := by unfold rsN; rw [if_neg w3, if_neg w33, if_pos (by omega)]; omega
      have e3 : rsW (gM M) p w u = fset (fset u 0 (gM M (p + 1) - 97)) 1 (gM M (p + 3) - 97) := by unfold rsW; rw [if_neg w3, if_neg w33, if_pos (by omega)]
      rw [e2, e3]
      have r : rmR (fqM (mst M p u) w).1 (fqM (mst M p u) w).2 M ((gM M p = 32 ∧ (97 ≤ gM M (p + 1) ∧ gM M (p + 1) ≤ 104)) ∧ (gM M (p + 2) = 32 ∧ (97 ≤ gM M (p + 3) ∧ gM M (p + 3) ≤ 104))) (p + 4) (fset (fset u 0 (gM M (p + 1) - 97)) 1 (gM M (p + 3) - 97)) := by
        rw [fqM_4 (by omega) w5, if_neg w33]
        have q1 := rn_R M 0 u hp
        by_cases c1 : gM M p = 32 ∧ (97 ≤ gM M (p + 1) ∧ gM M (p + 1) ≤ 104)
        · obtain ⟨b1, x1⟩ := q1.1 c1
          rw [if_pos b1, x1]
          have q2 := rn_R M (p := p + 2) 1 (fset u 0 (gM M (p + 1) - 97)) (by omega)
          rw [show p + 2 + 1 = p + 3 by omega, show p + 2 + 2 = p + 4 by omega] at q2
          exact rm_iff ⟨fun z => ⟨c1, z⟩, fun z => z.2⟩ q2
        · obtain ⟨b1, q, v, q0, x1⟩ := q1.2 c1
          rw [b1, if_neg (by decide), x1]
          exact ⟨fun z => absurd z.1 c1, fun _ => ⟨rfl, q, v, q0, rfl⟩⟩
      exact fq_end r (by rw [e1]; simp only [and_assoc]) (fun _ => by omega)
  · have e1 : rsP (gM M) p w ↔ (gM M p = 32 ∧ p + 1 < (nuE (gM M) 4 (p + 1) 0).2 ∧ gM M (nuE (gM M) 4 (p + 1) 0).2 = 59) := by unfold rsP; rw [if_neg w3, if_neg (by omega), if_neg (by omega), if_neg w6]
    have e2 : rsN (gM M) p w = (nuE (gM M) 4 (p + 1) 0).2 + 1 := by unfold rsN; rw [if_neg w3, if_neg (by omega), if_neg (by omega), if_neg w6]
    have e3 : rsW (gM M) p w u = fset u 0 (nuE (gM M) 4 (p + 1) 0).1 := by unfold rsW; rw [if_neg w3, if_neg (by omega), if_neg (by omega), if_neg w6]
    rw [e2, e3]
    have n1 := nuE_rg (gM M) 4 (p + 1) 0 (by omega)
    have r : rmR (fqM (mst M p u) w).1 (fqM (mst M p u) w).2 M (gM M p = 32 ∧ p + 1 < (nuE (gM M) 4 (p + 1) 0).2) (nuE (gM M) 4 (p + 1) 0).2 (fset u 0 (nuE (gM M) 4 (p + 1) 0).1) := by
      rw [fqM_5 (by omega) (by omega) (by omega)]
      exact nu_R M 0 u hp
    exact fq_end r (by rw [e1]; simp only [and_assoc]) (fun _ => by omega)
