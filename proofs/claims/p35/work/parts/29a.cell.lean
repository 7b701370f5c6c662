/-! ===== yL_cell ===== -/
theorem dL_cell_0 : decode cL_cell 0 = .ok (.iload_n 1, 1) := by decide +kernel
theorem dL_cell_1 : decode cL_cell 1 = .ok (.aload_n 0, 1) := by decide +kernel
theorem dL_cell_2 : decode cL_cell 2 = .ok (.arraylength, 1) := by decide +kernel
theorem dL_cell_3 : decode cL_cell 3 = .ok (.if_icmp .ge 9, 3) := by decide +kernel
theorem dL_cell_6 : decode cL_cell 6 = .ok (.aload_n 0, 1) := by decide +kernel
theorem dL_cell_7 : decode cL_cell 7 = .ok (.iload_n 1, 1) := by decide +kernel
theorem dL_cell_8 : decode cL_cell 8 = .ok (.iaload, 1) := by decide +kernel
theorem dL_cell_9 : decode cL_cell 9 = .ok (.goto 7, 3) := by decide +kernel
theorem dL_cell_12 : decode cL_cell 12 = .ok (.bipush 37, 2) := by decide +kernel
theorem dL_cell_14 : decode cL_cell 14 = .ok (.iload_n 1, 1) := by decide +kernel
theorem dL_cell_15 : decode cL_cell 15 = .ok (.imul, 1) := by decide +kernel
theorem dL_cell_16 : decode cL_cell 16 = .ok (.ireturn, 1) := by decide +kernel
def f_L_cell (Ln : Nat) (xs : Nat → Int) (k : Int) (hp : gH) : Option (Int) :=
     (if xw k < xw (Ln : Int) then (Option.bind (gTl Ln xs k) fun q0 =>
      some q0)
      else some (37 * k))
set_option maxRecDepth 1000000 in
set_option maxHeartbeats 4000000 in
theorem t_L_cell {P : gG → Prop} {d : Nat} {m : xM} {hp : gH} {r : Int} (hd9 : 1 ≤ d) (C : ∀ Γ, P Γ → gX Γ lay_X RL cL_cell 2 d hp) (Ln : Nat) (xs : Nat → Int) (k : Int) (hR : ∀ Γ, P Γ → gRi Γ lay_X cL_cell r m hp) (hZ : ∀ Γ, P Γ → gS Γ Ln xs) (h : f_L_cell Ln xs k hp = some r) : gJ P lay_X 2 0 [(0, .inr (.inr (some 1300))), (1, .inl k)] [] m hp hp := by
  unfold f_L_cell at h
  refine g_iload_n C dL_cell_0 rfl ?_
  refine g_aload_n C dL_cell_1 rfl ?_
  refine g_tlen C hZ dL_cell_2 ?_
  refine g_icmp_ge C 12 dL_cell_3 (by decide) h (fun h => ?_) (fun h => ?_)
  · refine g_bipush C dL_cell_12 (by decide) ?_
    refine g_iload_n C dL_cell_14 rfl ?_
    refine g_imul C dL_cell_15 ?_
    exact g_ireturn hR dL_cell_16 (by cases h; exact ⟨rfl, rfl, rfl⟩)
  · refine g_aload_n C dL_cell_6 rfl ?_
    refine g_iload_n C dL_cell_7 rfl ?_
    obtain ⟨q0, hq0, h⟩ := x_bind h
    refine g_tloadS C hZ dL_cell_8 hq0 ?_
    refine g_goto C 16 dL_cell_9 (by decide) ?_
    exact g_ireturn hR dL_cell_16 (by cases h; exact ⟨rfl, rfl, rfl⟩)
theorem c_L_cell {Ln : Nat} {xs : Nat → Int} {k : Int} (m : xM) {r : Int} {hp : gH} (h : f_L_cell Ln xs k hp = some r) (l : Launch) : gMetS Ln xs l yL_cell cL_cell 2 (some .int) 1 lay_X [.inr (.inr (some 1300)), .inl k] m hp (some (.inl r)) m hp :=
  gMetS_i (by decide +kernel) (Nat.le_of_ble_eq_true rfl) (fun P C hZ hR => t_L_cell (Nat.le_refl _) C _ _ _ hR hZ h)
