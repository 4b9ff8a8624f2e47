/-! what every call keeps of the specification's world -/
section OK
variable {w : sp_W}
theorem ok_feed (hw : sp_wok w) (v : Int64) (n : Int32) : sp_wok (sp_feed w v n).2 := by
  unfold sp_feed
  split
  · exact hw
  · split
    · exact ⟨hw.1, hw.2.1, Nat.zero_le _⟩
    · split
      · exact hw
      · rename_i h
        refine ⟨hw.1, hw.2.1, ?_⟩
        show (sp_fb v n.toNatClampNeg w.2.2.1).2 ≤ 3000
        rw [sp_fb_n]
        omega
theorem ok_read {F : Nat} (hF : 24007 ≤ F) (hw : sp_wok w) : sp_wok (sp_read F w).2 := by
  obtain ⟨h1, h2, -⟩ := sp_re_ok hF hw
  exact ⟨h1.1, sp_grow_va hw.2.1 h2, hw.2.2⟩
theorem ok_gate (hw : sp_wok w) (k a b : Int32) : sp_wok (sp_gate w k a b).2 := by
  unfold sp_gate
  cases ha : sp_lit (cN w.1) a with
  | none => exact hw
  | some p =>
    cases hb : sp_lit (cN w.1) b with
    | none => exact hw
    | some q =>
      dsimp only
      by_cases hk : k = 2 ∨ k = 3
      · rw [if_pos hk]
        have hk' : k.toNatClampNeg = 2 ∨ k.toNatClampNeg = 3 := hk.imp (fun z => by rw [z]; rfl) (fun z => by rw [z]; rfl)
        obtain ⟨g1, g2, -⟩ := sp_gt_ok hw.1 hk' (sp_lit_s ha).2 (sp_lit_s hb).2
        exact ⟨g1, sp_grow_va hw.2.1 g2, hw.2.2⟩
      · rw [if_neg hk]
        exact hw
theorem ok_clear (hw : sp_wok w) : sp_wok (sp_clear w).2 := by
  refine ⟨⟨⟨Nat.le_refl 1, show (1 : Nat) ≤ 120 by decide, Nat.zero_le 24⟩, fun v h1 h2 => ?_, hw.1.2.2.1, fun i hi => absurd hi (Nat.not_lt_zero i)⟩, sp_id_va _, hw.2.2⟩
  have h3 : v < 1 := h2
  omega
theorem ok_forget (hw : sp_wok w) : sp_wok (sp_forget w).2 := ⟨hw.1, sp_id_va _, hw.2.2⟩
theorem ok_join (hw : sp_wok w) (a b : Int32) : sp_wok (sp_join w a b).2 := by
  unfold sp_join
  cases ha : sp_lit (cN w.1) a with
  | none => exact hw
  | some p =>
    cases hb : sp_lit (cN w.1) b with
    | none => exact hw
    | some q =>
      dsimp only
      split
      · exact hw
      · exact ⟨hw.1, (sp_j_va hw.2.1 (sp_lit_s ha).2 (sp_lit_s hb).2).1, hw.2.2⟩
theorem ok_satu (hw : sp_wok w) (a b : Int32) : sp_wok (sp_satu w a b).2 := by
  unfold sp_satu
  split
  · exact hw
  · split
    · exact hw
    · have h := sp_sk_gd (ms := b.toNatClampNeg) (sp_cok_wf hw.1) hw.1.1.1 a.toNatClampNeg w.2.1 (0, 0, 0, 0) (sp_ok_0 hw _)
      split
      · exact hw
      · exact ⟨hw.1, h.2.2, hw.2.2⟩
theorem ok_prove (hw : sp_wok w) (l a b : Int32) : sp_wok (sp_prove w l a b).2 := by
  unfold sp_prove
  split
  · split
    · exact hw
    · exact hw
  · exact hw
end OK
/-- the world of a new object -/
def sp_w0 : sp_W := ((1, fun _ => 0, fun _ => 0, fun _ => 0, 0, fun _ => 0, fun _ _ => 0, fun _ => 0), sp_id, (fun _ => 0, 0), -1, (0, 0, 0, 0))
theorem ok_w0 : sp_wok sp_w0 := by
  refine ⟨⟨⟨Nat.le_refl 1, show (1 : Nat) ≤ 120 by decide, Nat.zero_le 24⟩, fun v h1 h2 => ?_, ⟨rfl, rfl, rfl⟩, fun i hi => absurd hi (Nat.not_lt_zero i)⟩, sp_id_va _, Nat.zero_le _⟩
  have h3 : v < 1 := h2
  omega
