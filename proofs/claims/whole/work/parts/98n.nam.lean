/-! names: alike in both bases -/
theorem nmv_inj {b : Nat} (hb : 27 ≤ b) {c c' : Nat → Nat} {j j' : Nat} : ∀ k k', k ≤ 8 → k' ≤ 8 → (∀ i, i < k → 97 ≤ c (j + i) ∧ c (j + i) ≤ 122) → (∀ i, i < k' → 97 ≤ c' (j' + i) ∧ c' (j' + i) ≤ 122) → nmv b c j k = nmv b c' j' k' → k = k' ∧ ∀ i, i < k → c (j + i) = c' (j' + i)
  | 0, 0, _, _, _, _, _ => ⟨rfl, fun i hi => by omega⟩
  | 0, k' + 1, _, h2, _, g2, e => by
    rw [nmv_s, if_pos (by omega)] at e
    have := g2 k' (by omega)
    have e0 : nmv b c j 0 = 0 := rfl
    omega
  | k + 1, 0, h1, _, g1, _, e => by
    rw [nmv_s, if_pos (by omega)] at e
    have := g1 k (by omega)
    have e0 : nmv b c' j' 0 = 0 := rfl
    omega
  | k + 1, k' + 1, h1, h2, g1, g2, e => by
    rw [nmv_s, nmv_s, if_pos (by omega), if_pos (by omega)] at e
    have a1 := g1 k (by omega)
    have a2 := g2 k' (by omega)
    have m1 : (nmv b c j k * b + (c (j + k) - 96)) % b = c (j + k) - 96 := by
      rw [Nat.mul_comm, Nat.mul_add_mod, Nat.mod_eq_of_lt (by omega)]
    have m2 : (nmv b c' j' k' * b + (c' (j' + k') - 96)) % b = c' (j' + k') - 96 := by
      rw [Nat.mul_comm, Nat.mul_add_mod, Nat.mod_eq_of_lt (by omega)]
    have ed : c (j + k) - 96 = c' (j' + k') - 96 := by rw [← m1, e, m2]
    have en : nmv b c j k = nmv b c' j' k' := by
      rw [ed] at e
      have : nmv b c j k * b = nmv b c' j' k' * b := by omega
      exact Nat.eq_of_mul_eq_mul_right (by omega) this
    obtain ⟨q1, q2⟩ := nmv_inj hb k k' (by omega) (by omega) (fun i hi => g1 i (by omega)) (fun i hi => g2 i (by omega)) en
    refine ⟨by omega, fun i hi => ?_⟩
    by_cases q : i = k
    · subst q
      subst q1
      omega
    · exact q2 i (by omega)
