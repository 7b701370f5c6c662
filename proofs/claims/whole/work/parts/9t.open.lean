/-! ===== calls that are still open ===== -/
set_option maxRecDepth 100000 in
set_option maxHeartbeats 8000000 in
theorem lc_25 {Γ : yG} {b Ln : Nat} {xs : Nat → Int32} (C : yC Γ RL cL_law 9 100 601024 7293034) (Z : lC Γ b Ln xs) (hst : Γ.1.2.1.stackTraces = false) {aX aM : Nat → Nat} (hS : lS Γ aX aM) (o i : Nat) (hi : i + 6 ≤ Ln) {ws : va_W} {k n : Nat} (hk : k + 4 ≤ 601024) (hn : n + 200 ≤ 7293034) (hI : lI (yDA Γ) aX aM o ws) (Gk : ∀ (ws' : va_W) (k' n' : Nat), lI (yDA Γ) aX aM o ws' → k' ≤ k + 4 → n' ≤ n + 200 → yW Γ 9 1638 (lL b aX aM o i) [] ws' k' n') : yW Γ 9 1494 (lL b aX aM o i) [] ws k n := by
  sorry
set_option maxRecDepth 100000 in
set_option maxHeartbeats 8000000 in
theorem lc_26 {Γ : yG} {b Ln : Nat} {xs : Nat → Int32} (C : yC Γ RL cL_law 9 100 601024 7293034) (Z : lC Γ b Ln xs) (hst : Γ.1.2.1.stackTraces = false) {aX aM : Nat → Nat} (hS : lS Γ aX aM) (o i : Nat) (hi : i + 6 ≤ Ln) {ws : va_W} {k n : Nat} (hk : k + 4 ≤ 601024) (hn : n + 200 ≤ 7293034) (hI : lI (yDA Γ) aX aM o ws) (Gk : ∀ (ws' : va_W) (k' n' : Nat), lI (yDA Γ) aX aM o ws' → k' ≤ k + 4 → n' ≤ n + 200 → yW Γ 9 1638 (lL b aX aM o i) [] ws' k' n') : yW Γ 9 1507 (lL b aX aM o i) [] ws k n := by
  sorry
