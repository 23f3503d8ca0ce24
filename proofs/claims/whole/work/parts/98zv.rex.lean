/-! THE TEXT: read -/
-- the wall stays as it is
set_option maxHeartbeats 4000000 in
theorem read_fail {β b t n lv sd q qd : Nat} {xs : Nat → Int32} {μ μ2 : gM} (hs : ∀ j, μ2.1 b j = xs j) (hR : gPS μ2.2.2 β) (itp : gI_tp β μ2) (ipc : gI_pc β μ2) (irf : gI_rf β q μ2.2.2) (hq : q = 56 ∨ q = 83) (hqd : q + qd = 139) (hsd : lv + sd = 1) (iky : gI_ky β μ) (isr : gI_sr β μ) (ifa : gI_fa β μ) (ido : gI_do β μ) (ias : gI_as β μ) (ihd : gI_hd β t n lv μ) (ibx : ∀ k, k < n → gI_bx β lv k μ) (ilk : ∀ k, k < n → gI_lk β t k μ) (ihs : ∀ k, k < n → gI_hs β t k μ) (ifx : ∀ k, k < n → gI_fx β k μ) (iov : gI_ov β n μ) (isc : gI_sc β q lv n μ) (ipl : gI_pl β t μ) (ily : gI_ly β n μ)
    (G1 : ∀ a j, ¬ ((a = 1 ∧ j = 1) ∨ (a = 3 ∧ 2 ≤ j ∧ j ≤ 4) ∨ (a = 4 ∧ j = 3) ∨ a = 5 ∨ a = 6 ∨ (a = qd ∧ 8 ≤ j ∧ j ≤ 11) ∨ (qd + 2 ≤ a ∧ a ≤ qd + 5) ∨ (qd + 8 ≤ a ∧ a ≤ qd + 25) ∨ (a = 110 ∧ (j = 2 ∨ j = 4 ∨ (10 ≤ j ∧ j ≤ 17) ∨ j = 19 ∨ j = 34 ∨ j = 37 ∨ j = 38 ∨ j = 40)) ∨ (112 ≤ a ∧ a ≤ 115) ∨ a = 134 ∨ ((a = 132 ∨ a = 133) ∧ 500 * sd ≤ j ∧ j < 500 * sd + 500) ∨ ((a = 118 ∨ a = 119) ∧ j = sd) ∨ (121 ≤ a ∧ a ≤ 123 ∧ 12 * sd ≤ j ∧ j < 12 * sd + 12) ∨ (125 ≤ a ∧ a ≤ 131 ∧ 6 * sd ≤ j ∧ j < 6 * sd + 6)) → μ2.1 (β + a) j = μ.1 (β + a) j) (G2 : ∀ a j, ¬ (a = 7 ∨ (qd + 8 ≤ a ∧ a ≤ qd + 25) ∨ a = 116 ∨ (a = 120 ∧ 12 * sd ≤ j ∧ j < 12 * sd + 12) ∨ (a = 124 ∧ 6 * sd ≤ j ∧ j < 6 * sd + 6)) → μ2.2.1 (β + a) j = μ.2.1 (β + a) j) : gInv β b xs μ2 := by
  obtain ⟨ht, hn, hlv, h10, h51, h9, h18, h119⟩ := id ihd
  refine ⟨hs, hR, gI_ky_c (fun a j hD => by unfold gD_ky at hD; exact ⟨G1 _ _ (by omega), G2 _ _ (by omega)⟩) iky, itp, ipc, gI_sr_c (fun a j hD => by unfold gD_sr at hD; exact ⟨G1 _ _ (by omega), G2 _ _ (by omega)⟩) isr, gI_fa_c (fun a j hD => by unfold gD_fa at hD; exact ⟨G1 _ _ (by omega), G2 _ _ (by omega)⟩) ifa, gI_do_c (fun a j hD => by unfold gD_do at hD; exact ⟨G1 _ _ (by omega), G2 _ _ (by omega)⟩) ido, gI_as_c (fun a j hD => by unfold gD_as at hD; exact ⟨G1 _ _ (by omega), G2 _ _ (by omega)⟩) ias, t, n, lv, q, irf, ⟨ht, hn, hlv, ?_, ?_, ?_, ?_, ?_⟩, (fun k hk => ?_), (fun k hk => gI_lk_c (fun a j hD => by unfold gD_lk at hD; exact ⟨G1 _ _ (by omega), G2 _ _ (by omega)⟩) (ilk k hk)), (fun k hk => gI_hs_c ht (fun a j hD => by unfold gD_hs at hD; exact ⟨G1 _ _ (by omega), G2 _ _ (by omega)⟩) (ihs k hk)), (fun k hk => gI_fx_c (fun a j hD => by unfold gD_fx at hD; exact ⟨G1 _ _ (by omega), G2 _ _ (by omega)⟩) (ifx k hk)), gI_ov_c (fun a j hD => by obtain ⟨hj, k, hk, rfl⟩ := hD; exact ⟨G1 _ _ (by omega), G2 _ _ (by omega)⟩) iov, ?_, gI_pl_c (fun a j hD => by unfold gD_pl at hD; exact ⟨G1 _ _ (by omega), G2 _ _ (by omega)⟩) ipl, gI_ly_c (fun a j hD => by unfold gD_ly at hD; exact ⟨G1 _ _ (by omega), G2 _ _ (by omega)⟩) ily⟩
  · rw [G1 _ _ (by omega)]; exact h10
  · rw [G1 _ _ (by omega)]; exact h51
  · rw [G1 _ _ (by omega)]; exact h9
  · rw [G1 _ _ (by omega)]; exact h18
  · rw [G1 _ _ (by omega)]; exact h119
  · have := ibx k hk
    unfold gI_bx at this ⊢
    rw [G1 _ _ (by omega), G1 _ _ (by omega), G1 _ _ (by omega), G1 _ _ (by omega), G1 _ _ (by omega), G1 _ _ (by omega), G1 _ _ (by omega), G1 _ _ (by omega), G1 _ _ (by omega), G1 _ _ (by omega)]
    exact this
  · obtain ⟨L, C, op, ar, a1, a2, a3, a4, a5, a6, a7, a8⟩ := isc
    refine ⟨L, C, op, ar, a1, a2, ?_, ?_, ?_, fun i hi => ?_, fun k hk => ?_, fun k hk => ?_⟩
    · rw [G1 _ _ (by omega)]; exact a3
    · rw [G1 _ _ (by omega)]; exact a4
    · rw [G1 _ _ (by omega)]; exact a5
    · rw [G1 _ _ (by omega), G1 _ _ (by omega), G1 _ _ (by omega), G1 _ _ (by omega)]; exact a6 i hi
    · obtain ⟨j, s, e, b1, b2, b3, b4, b5, b6, b7, b8, b9⟩ := a7 k hk
      refine ⟨j, s, e, b1, b2, b3, ?_, ?_, ?_, ?_, ?_, b9⟩
      · rw [G1 _ _ (by omega)]; exact b4
      · rw [G1 _ _ (by omega)]; exact b5
      · rw [G1 _ _ (by omega)]; exact b6
      · rw [G1 _ _ (by omega)]; exact b7
      · rw [G1 _ _ (by omega)]; exact b8
    · obtain ⟨s, e, b1, b2, b3, b4, b5, b6, b7⟩ := a8 k hk
      refine ⟨s, e, b1, b2, ?_, ?_, ?_, ?_, b7⟩
      · rw [G1 _ _ (by omega)]; exact b3
      · rw [G1 _ _ (by omega)]; exact b4
      · rw [G1 _ _ (by omega)]; exact b5
      · rw [G1 _ _ (by omega)]; exact b6
