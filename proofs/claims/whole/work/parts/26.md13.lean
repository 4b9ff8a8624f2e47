/-! the reference's machine of frames: SATURATED to a depth -/
/-- a saturation of depth k at any frame does what the specification says -/
def md_SK (X : xo_X) (d B : Nat) (dp : Int32) (g : xo_G) (n ms : Nat) (kd o1 o2 : Nat → Nat) (k : Nat) : Prop := ∀ (f : Nat) (E : sp_E) (t : sp_T) (σ : md_S) (l3 : Option Value) (Q : Option Value → xo_G → Prop), f + k ≤ 4 → md_ci σ n kd o1 o2 → σ.1 36 = nI ms → sp_ok n ms E t → md_rw σ n f E → σ.2 30 f = nI k → σ.2 31 f = 0 → md_tt σ t →
  ((sp_sk n kd o1 o2 ms k E t).1 = true → ∀ σ2, md_fr σ σ2 f → md_tt σ2 (sp_sk n kd o1 o2 ms k E t).2.2 → Q (some (.int 0)) (md_put B σ2 g)) →
  ((sp_sk n kd o1 o2 ms k E t).1 = false → ∀ σ2 l3', md_fr σ σ2 f → md_tt σ2 (sp_sk n kd o1 o2 ms k E t).2.2 → md_rw σ2 n f (sp_sk n kd o1 o2 ms k E t).2.1 → md_hd X d B dp g Q (nI f + (-1)) l3' σ2) → md_hd X d B dp g Q (nI f) l3 σ
section M13
variable {X : xo_X} {d B : Nat} {dp : Int32} {g : xo_G} {n ms : Nat} {kd o1 o2 : Nat → Nat}
theorem md_fk_fr (σ : md_S) {f f2 v : Nat} (h : f ≤ f2) : md_fr σ (md_fk σ f2 v) f := by
  refine ⟨fun _ _ _ _ _ => rfl, fun q hq => ?_, fun q j hq hj => ?_, fun q j hq _ => ?_⟩
  · unfold md_fk; rw [md_fi_2, if_neg (by omega)]
  · unfold md_fk
    rw [md_fi_2]
    split
    · rename_i e; subst e
      dsimp only
      rw [if_neg (by omega)]
    · rfl
  · unfold md_fk; rw [md_fi_2, if_neg (by omega)]
set_option maxHeartbeats 1000000 in
theorem md_pass {k f bf : Nat} (ih : md_SK X d B dp g n ms kd o1 o2 k) (hfk : f + (k + 1) ≤ 4) (hw : sp_wf n kd o1 o2) : ∀ (m v : Nat) (E : sp_E) (t : sp_T) (σ : md_S) (l3 : Option Value) (Q : Option Value → xo_G → Prop), v + m = n → 1 ≤ v → E.2 = false → md_ci σ n kd o1 o2 → σ.1 36 = nI ms → sp_ok n ms E t → md_rw σ n f E → σ.2 30 f = nI (k + 1) → σ.2 31 f = 2 → σ.2 32 f = nI v → σ.2 33 f = nI bf → md_tt σ t →
    ((sp_ps (sp_sk n kd o1 o2 ms k) m v E t).1 = true → ∀ σ2, md_fr σ σ2 f → md_tt σ2 (sp_ps (sp_sk n kd o1 o2 ms k) m v E t).2.2 → Q (some (.int 0)) (md_put B σ2 g)) →
    ((sp_ps (sp_sk n kd o1 o2 ms k) m v E t).1 = false → (sp_ps (sp_sk n kd o1 o2 ms k) m v E t).2.1.2 = true → ∀ σ2 l3', md_fr σ σ2 f → md_tt σ2 (sp_ps (sp_sk n kd o1 o2 ms k) m v E t).2.2 → md_rw σ2 n f (sp_ps (sp_sk n kd o1 o2 ms k) m v E t).2.1 → md_hd X d B dp g Q (nI f + (-1)) l3' σ2) →
    ((sp_ps (sp_sk n kd o1 o2 ms k) m v E t).1 = false → (sp_ps (sp_sk n kd o1 o2 ms k) m v E t).2.1.2 = false → ∀ σ2 l3', md_fr σ σ2 f → md_tt σ2 (sp_ps (sp_sk n kd o1 o2 ms k) m v E t).2.2 → md_rw σ2 n f (sp_ps (sp_sk n kd o1 o2 ms k) m v E t).2.1 → σ2.2 30 f = nI (k + 1) → σ2.2 31 f = 2 → σ2.2 32 f = nI n → σ2.2 33 f = nI bf → md_hd X d B dp g Q (nI f) l3' σ2) → md_hd X d B dp g Q (nI f) l3 σ := by
  intro m
  induction m with
  | zero =>
    intro v E t σ l3 Q hv hv1 hE0 hc hm ho hr h30 h31 h32 h33 ht hS hC hG
    have e : v = n := by omega
    subst e
    exact hG rfl hE0 σ l3 (md_fr_rf σ f) ht hr h30 h31 h32 h33
  | succ m ihm =>
    intro v E t σ l3 Q hv hv1 hE0 hc hm ho hr h30 h31 h32 h33 ht hS hC hG
    have h3 := hc.1
    have hn := hc.2.2.1
    have h0 := hc.2.1
    unfold sp_ps at hS hC hG
    by_cases hfr : sp_fr E v
    · rw [if_pos hfr] at hS hC hG
      dsimp only at hS hC hG
      have g1 := sp_sk_gd (ms := ms) hw h0 k (sp_j E (2 * v) 0) t (sp_ok_j ho ho.2.1 (by omega) (by omega))
      generalize hz1 : sp_sk n kd o1 o2 ms k (sp_j E (2 * v) 0) t = z1 at hS hC hG g1
      have g2 := sp_sk_gd (ms := ms) hw h0 k (sp_j E (2 * v) 1) (sp_tb z1.2.2 z1.2.1.2) (sp_ok_j ho g1.2.1 (by omega) (by omega))
      generalize hz2 : sp_sk n kd o1 o2 ms k (sp_j E (2 * v) 1) (sp_tb z1.2.2 z1.2.1.2) = z2 at hS hC hG g2
      rw [c_ph2_go hc (by omega) ho.1 hr h30 h31 h32 (by omega) hfr]
      -- the first branch
      have F0 : md_fr σ (md_sa (md_sa (md_sa (md_wr σ n (f + 1) (sp_j E (2 * v) 0)) 30 (f + 1) (nI k)) 31 (f + 1) 0) 31 f 3) f := by
        refine md_fr_sa2 ?_ (by decide) (by decide) (by decide) (Nat.le_refl f)
        refine md_fr_sa2 ?_ (by decide) (by decide) (by decide) (Nat.le_succ f)
        refine md_fr_sa2 ?_ (by decide) (by decide) (by decide) (Nat.le_succ f)
        exact md_fr_wr2 (md_fr_rf σ f) (Nat.le_succ f)
      have w30 : ∀ (E : sp_E) (q : Nat), 28 ≤ q → (md_wr σ n (f + 1) E).2 q = σ.2 q := fun E q hq => md_wr_2 σ n (f + 1) E (by omega) (by omega)
      refine ih (f + 1) (sp_j E (2 * v) 0) t _ _ _ (by omega) (md_ci_fr F0 hc) hm (sp_ok_j ho ho.2.1 (by omega) (by omega)) ⟨fun l hl => md_wr_row _ _ hl, md_wr_c _ _ _ _⟩ (by simp [md_sa_2, upd_a]) (by simp [md_sa_2, upd_a]) ht ?_ ?_
      · rw [hz1]
        intro hz σ2 f1 f2
        rw [if_pos hz] at hS
        exact hS rfl σ2 (md_fr_tr F0 f1 (Nat.le_succ f)) f2
      · rw [hz1]
        intro hz σ2 l3' f1 f2 f3
        have hnz : ¬ z1.1 = true := by rw [hz]; decide
        rw [if_neg hnz] at hS hC hG
        rw [pk_m1]
        have F1 := md_fr_tr F0 f1 (Nat.le_succ f)
        have q31 : σ2.2 31 f = 3 := by rw [f1.2.2.2 31 f (by decide) (Nat.lt_succ_self f)]; simp [md_sa_2, upd_a]
        have q30 : σ2.2 30 f = nI (k + 1) := by
          rw [f1.2.2.2 30 f (by decide) (Nat.lt_succ_self f)]
          simp [md_sa_2, upd_a, w30]
          exact h30
        have q32 : σ2.2 32 f = nI v := by
          rw [f1.2.2.2 32 f (by decide) (Nat.lt_succ_self f)]
          simp [md_sa_2, w30]
          exact h32
        have q33 : σ2.2 33 f = nI bf := by
          rw [f1.2.2.2 33 f (by decide) (Nat.lt_succ_self f)]
          simp [md_sa_2, w30]
          exact h33
        have qr : md_rw σ2 n f E := by
          refine md_rw_fr f1 (Nat.lt_succ_self f) hn ⟨fun l hl => ?_, ?_⟩
          · simp only [md_sa_2, Nat.reduceEqDiff, if_false]
            rw [md_wr_row2 σ _ hn (by omega) (by omega)]
            exact hr.1 l hl
          · simp only [md_sa_2, Nat.reduceEqDiff, if_false]
            rw [md_wr_c2 σ _ (by omega)]
            exact hr.2
        have hc1 := md_ci_fr F1 hc
        rw [c_ph3 (t := z1.2.2) hc1 (by omega) ho.1 qr f3 q30 q31 q32 (by omega) f2]
        -- the second branch
        have F2 : md_fr σ2 (md_sa (md_sa (md_sa (md_wr (md_si (md_sa (md_fk σ2 f (2 * n)) 29 f (sp_zb z1.2.1.2)) 39 (nI (sp_tb z1.2.2 z1.2.1.2).2.2.2)) n (f + 1) (sp_j E (2 * v) 1)) 30 (f + 1) (nI k)) 31 (f + 1) 0) 31 f 4) f := by
          refine md_fr_sa2 ?_ (by decide) (by decide) (by decide) (Nat.le_refl f)
          refine md_fr_sa2 ?_ (by decide) (by decide) (by decide) (Nat.le_succ f)
          refine md_fr_sa2 ?_ (by decide) (by decide) (by decide) (Nat.le_succ f)
          refine md_fr_wr2 ?_ (Nat.le_succ f)
          refine md_fr_si2 ?_ (by decide)
          refine md_fr_sa2 ?_ (by decide) (by decide) (by decide) (Nat.le_refl f)
          exact md_fk_fr σ2 (Nat.le_refl f)
        have u30 : ∀ (E : sp_E) (q : Nat), 28 ≤ q → ¬ q = 28 → ¬ q = 29 → (md_wr (md_si (md_sa (md_fk σ2 f (2 * n)) 29 f (sp_zb z1.2.1.2)) 39 (nI (sp_tb z1.2.2 z1.2.1.2).2.2.2)) n (f + 1) E).2 q = σ2.2 q := fun E q hq h28 h29 => by
          rw [md_wr_2 _ n (f + 1) E (by omega) (by omega), md_si_2, md_sa_2, if_neg h29]
          unfold md_fk
          rw [md_fi_2, if_neg h28]
        refine ih (f + 1) (sp_j E (2 * v) 1) (sp_tb z1.2.2 z1.2.1.2) _ _ _ (by omega) (md_ci_fr F2 hc1) (md_ms_fr F2 (md_ms_fr F1 hm)) (sp_ok_j ho g1.2.1 (by omega) (by omega)) ⟨fun l hl => md_wr_row _ _ hl, md_wr_c _ _ _ _⟩ (by simp [md_sa_2, upd_a]) (by simp [md_sa_2, upd_a]) ⟨f2.1, f2.2.1, f2.2.2.1, rfl⟩ ?_ ?_
        · rw [hz2]
          intro hzz σ3 p1 p2
          rw [if_pos hzz] at hS
          exact hS rfl σ3 (md_fr_tr F1 (md_fr_tr F2 p1 (Nat.le_succ f)) (Nat.le_refl f)) p2
        · rw [hz2]
          intro hzz σ3 l3b p1 p2 p3
          have hnzz : ¬ z2.1 = true := by rw [hzz]; decide
          rw [if_neg hnzz] at hS hC hG
          rw [pk_m1]
          have F3 := md_fr_tr F1 (md_fr_tr F2 p1 (Nat.le_succ f)) (Nat.le_refl f)
          have s31 : σ3.2 31 f = 4 := by rw [p1.2.2.2 31 f (by decide) (Nat.lt_succ_self f)]; simp [md_sa_2, upd_a]
          have s30 : σ3.2 30 f = nI (k + 1) := by
            rw [p1.2.2.2 30 f (by decide) (Nat.lt_succ_self f)]
            simp [md_sa_2, upd_a, u30]
            exact q30
          have s32 : σ3.2 32 f = nI v := by
            rw [p1.2.2.2 32 f (by decide) (Nat.lt_succ_self f)]
            simp [md_sa_2, u30]
            exact q32
          have s33 : σ3.2 33 f = nI bf := by
            rw [p1.2.2.2 33 f (by decide) (Nat.lt_succ_self f)]
            simp [md_sa_2, u30]
            exact q33
          have s29 : σ3.2 29 f = sp_zb z1.2.1.2 := by
            rw [p1.2.2.2 29 f (by decide) (Nat.lt_succ_self f)]
            simp only [md_sa_2, Nat.reduceEqDiff, if_false]
            rw [md_wr_2 _ _ _ _ (by decide) (by decide), md_si_2, md_sa_2, if_pos rfl, pk_us]
          have s28 : ∀ l, l < 2 * n → σ3.2 28 (240 * f + l) = nI (z1.2.1.1 l) := fun l hl => by
            rw [p1.2.2.1 28 _ (Or.inr rfl) (by omega)]
            simp only [md_sa_2, Nat.reduceEqDiff, if_false]
            rw [md_wr_2 _ _ _ _ (by decide) (by decide), md_si_2, md_sa_2, if_neg (by decide)]
            unfold md_fk
            rw [md_fi_2, if_pos rfl, if_pos (by omega), show 240 * f + l + 240 = 240 * (f + 1) + l by omega]
            exact f3.1 l hl
          have sr : md_rw σ3 n f E := by
            refine md_rw_fr p1 (Nat.lt_succ_self f) hn ⟨fun l hl => ?_, ?_⟩
            · simp only [md_sa_2, Nat.reduceEqDiff, if_false]
              rw [md_wr_row2 _ _ hn (by omega) (by omega)]
              exact qr.1 l hl
            · simp only [md_sa_2, Nat.reduceEqDiff, if_false]
              rw [md_wr_c2 _ _ (by omega)]
              exact qr.2
          refine c_ph4 (t := z2.2.2) (md_ci_fr F3 hc) (by omega) hE0 ho.1 g1.1 g2.1 sr s28 s29 p3 s31 s32 p2 (fun hcc σ4 r1 r2 r3 => ?_) (fun hcc σ4 r1 r2 r3 r4 r5 r6 r7 => ?_)
          · rw [if_pos hcc] at hC
            exact hC rfl hcc σ4 _ (md_fr_tr F3 r1 (Nat.le_refl f)) r2 r3
          · have hncc : ¬ (sp_ag E z1.2.1 z2.2.1).2 = true := by rw [hcc]; decide
            rw [if_neg hncc] at hS hC hG
            have F4 := md_fr_tr F3 r1 (Nat.le_refl f)
            refine ihm (v + 1) (sp_ag E z1.2.1 z2.2.1) (sp_tb z2.2.2 z2.2.1.2) σ4 _ Q (by omega) (by omega) hcc (md_ci_fr F4 hc) (md_ms_fr F4 hm) (sp_ok_ag ho g1 g2 g2.2.1) r3 (by rw [r4]; exact s30) r6 r7 (by rw [r5]; exact s33) r2 (fun hz σ5 u1 u2 => hS hz σ5 (md_fr_tr F4 u1 (Nat.le_refl f)) u2) (fun hz hz2 σ5 l5 u1 u2 u3 => hC hz hz2 σ5 l5 (md_fr_tr F4 u1 (Nat.le_refl f)) u2 u3) (fun hz hz2 σ5 l5 u1 u2 u3 u4 u5 u6 u7 => hG hz hz2 σ5 l5 (md_fr_tr F4 u1 (Nat.le_refl f)) u2 u3 u4 u5 u6 u7)
    · rw [if_neg hfr] at hS hC hG
      have Fn : md_fr σ (md_sa σ 32 f (nI (v + 1))) f := md_fr_sa σ _ (by decide) (by decide) (by decide) (Nat.le_refl f)
      have hph : (md_sa σ 32 f (nI (v + 1))).2 31 f = 2 := h31
      rw [c_ph2 (by omega) h31, (c_nextFree (f := f) h3 h0 hn (by omega) ho.1 hr h32 (by omega)).2 (by omega) hfr, ← c_ph2 (by omega) hph]
      exact ihm (v + 1) E t _ _ Q (by omega) (by omega) hE0 (md_ci_fr Fn hc) hm ho hr h30 h31 (by simp [md_sa_2, upd_a]) h33 ht (fun hz σ5 u1 u2 => hS hz σ5 (md_fr_tr Fn u1 (Nat.le_refl f)) u2) (fun hz hz2 σ5 l5 u1 u2 u3 => hC hz hz2 σ5 l5 (md_fr_tr Fn u1 (Nat.le_refl f)) u2 u3) (fun hz hz2 σ5 l5 u1 u2 u3 u4 u5 u6 u7 => hG hz hz2 σ5 l5 (md_fr_tr Fn u1 (Nat.le_refl f)) u2 u3 u4 u5 u6 u7)
theorem md_passes {k f : Nat} (ih : md_SK X d B dp g n ms kd o1 o2 k) (hfk : f + (k + 1) ≤ 4) (hw : sp_wf n kd o1 o2) (hms : ms < 2 ^ 31) : ∀ (q : Nat) (E : sp_E) (t : sp_T) (σ : md_S) (l3 : Option Value) (Q : Option Value → xo_G → Prop), sp_cn n E < q → E.2 = false → md_ci σ n kd o1 o2 → σ.1 36 = nI ms → sp_ok n ms E t → md_rw σ n f E → σ.2 30 f = nI (k + 1) → σ.2 31 f = 2 → σ.2 32 f = 1 → σ.2 33 f = nI (sp_cn n E) → md_tt σ (t.1, t.2.1, t.2.2.1 + 1, t.2.2.2) →
    ((sp_pp n (sp_st n kd o1 o2 ms) (sp_sk n kd o1 o2 ms k) q E t).1 = true → ∀ σ2, md_fr σ σ2 f → md_tt σ2 (sp_pp n (sp_st n kd o1 o2 ms) (sp_sk n kd o1 o2 ms k) q E t).2.2 → Q (some (.int 0)) (md_put B σ2 g)) →
    ((sp_pp n (sp_st n kd o1 o2 ms) (sp_sk n kd o1 o2 ms k) q E t).1 = false → ∀ σ2 l3', md_fr σ σ2 f → md_tt σ2 (sp_pp n (sp_st n kd o1 o2 ms) (sp_sk n kd o1 o2 ms k) q E t).2.2 → md_rw σ2 n f (sp_pp n (sp_st n kd o1 o2 ms) (sp_sk n kd o1 o2 ms k) q E t).2.1 → md_hd X d B dp g Q (nI f + (-1)) l3' σ2) → md_hd X d B dp g Q (nI f) l3 σ := by
  intro q
  induction q with
  | zero => intro E t σ l3 Q h; omega
  | succ q ihq =>
    intro E t σ l3 Q hq hE0 hc hm ho hr h30 h31 h32 h33 ht hS hG
    have h0 := hc.2.1
    have hn := hc.2.2.1
    unfold sp_pp at hS hG
    dsimp only at hS hG
    have gz := sp_ps_gd (sp_sk_gd (ms := ms) hw h0 k) h0 (n - 1) 1 E (t.1, t.2.1, t.2.2.1 + 1, t.2.2.2) (by omega) (sp_ok_t ho ho.2.1)
    generalize hz : sp_ps (sp_sk n kd o1 o2 ms k) (n - 1) 1 E (t.1, t.2.1, t.2.2.1 + 1, t.2.2.2) = z at hS hG gz
    have hle := sp_cn_le n E
    refine md_pass (bf := sp_cn n E) ih hfk hw (n - 1) 1 E (t.1, t.2.1, t.2.2.1 + 1, t.2.2.2) σ l3 Q (by omega) (Nat.le_refl 1) hE0 hc hm (sp_ok_t ho ho.2.1) hr h30 h31 h32 h33 ht ?_ ?_ ?_
    · rw [hz]
      intro h1 σ2 f1 f2
      rw [if_pos (Or.inl h1)] at hS
      exact hS h1 σ2 f1 f2
    · rw [hz]
      intro h1 h2 σ2 l3' f1 f2 f3
      rw [if_pos (Or.inr h2)] at hG
      exact hG h1 σ2 l3' f1 f2 f3
    · rw [hz]
      intro h1 h2 σ2 l3' f1 f2 f3 f4 f5 f6 f7
      have hno : ¬ (z.1 = true ∨ z.2.1.2 = true) := by rw [h1, h2]; decide
      rw [if_neg hno] at hS hG
      have gy := sp_st_gd (ms := ms) hw h0 _ _ gz
      refine c_phE (bf := sp_cn n E) (md_ci_fr f1 hc) hw (by omega) (md_ms_fr f1 hm) hms gz f3 f4 f5 f6 f7 (by omega) f2 (fun hlt => ?_) (fun hlt hy => ?_) (fun hlt hy hyc σ3 r1 r2 r3 => ?_) (fun hlt hy hyc σ3 r1 r2 r3 r4 r5 r6 r7 => ?_)
      · rw [if_neg hlt] at hG
        exact hG h1 σ2 l3' f1 f2 f3
      · rw [if_pos hlt, if_pos (Or.inl hy)] at hS
        refine hS hy σ2 f1 ?_
        have : (sp_st n kd o1 o2 ms z.2.1 z.2.2).2.2 = z.2.2 := by
          unfold sp_st at hy ⊢
          split at hy
          · rename_i e; rw [if_pos e]
          · cases hy
        rw [this]
        exact f2
      · rw [if_pos hlt, if_pos (Or.inr hyc)] at hG
        exact hG hy σ3 _ (md_fr_tr f1 r1 (Nat.le_refl f)) r2 r3
      · have hno2 : ¬ ((sp_st n kd o1 o2 ms z.2.1 z.2.2).1 = true ∨ (sp_st n kd o1 o2 ms z.2.1 z.2.2).2.1.2 = true) := by rw [hy, hyc]; decide
        rw [if_pos hlt, if_neg hno2] at hS hG
        have F := md_fr_tr f1 r1 (Nat.le_refl f)
        have hdec : sp_cn n (sp_st n kd o1 o2 ms z.2.1 z.2.2).2.1 ≤ sp_cn n z.2.1 := sp_st_cn hw h0 _ gz.2.2
        exact ihq _ _ σ3 _ Q (by omega) hyc (md_ci_fr F hc) (md_ms_fr F hm) gy r3 r4 r5 r6 r7 r2 (fun h σ4 u1 u2 => hS h σ4 (md_fr_tr F u1 (Nat.le_refl f)) u2) (fun h σ4 l4 u1 u2 u3 => hG h σ4 l4 (md_fr_tr F u1 (Nat.le_refl f)) u2 u3)
theorem md_SK_all (hw : sp_wf n kd o1 o2) (hms : ms < 2 ^ 31) : ∀ k : Nat, md_SK X d B dp g n ms kd o1 o2 k := by
  intro k
  induction k with
  | zero =>
    intro f E t σ l3 Q hfk hc hm ho hr h30 h31 ht hS hG
    refine c_ph0 (k := 0) hc hw (by omega) hm hms ho hr ht h30 (by decide) h31 (fun h => ?_) (fun h _ σ2 f1 f2 f3 => hG h σ2 l3 f1 f2 f3) (fun h h0 => absurd rfl h0)
    have e : (sp_st n kd o1 o2 ms E t).2.2 = t := by
      unfold sp_st at h ⊢
      split at h
      · rename_i e; rw [if_pos e]
      · cases h
    exact hS h σ (md_fr_rf σ f) (by show md_tt σ (sp_st n kd o1 o2 ms E t).2.2; rw [e]; exact ht)
  | succ k ih =>
    intro f E t σ l3 Q hfk hc hm ho hr h30 h31 ht hS hG
    have h0 := hc.2.1
    have gy := sp_st_gd (ms := ms) hw h0 E t ho
    unfold sp_sk at hS hG
    dsimp only at hS hG
    refine c_ph0 (k := k + 1) hc hw (by omega) hm hms ho hr ht h30 (by omega) h31 (fun h => ?_) (fun h hor σ2 f1 f2 f3 => ?_) (fun h _ hcn σ2 f1 f2 f3 f4 f5 f6 f7 => ?_)
    · rw [if_pos (Or.inl h)] at hS
      have e : (sp_st n kd o1 o2 ms E t).2.2 = t := by
        unfold sp_st at h ⊢
        split at h
        · rename_i e; rw [if_pos e]
        · cases h
      exact hS h σ (md_fr_rf σ f) (by rw [e]; exact ht)
    · rcases hor with hk | hk
      · omega
      · rw [if_pos (Or.inr hk)] at hG
        exact hG h σ2 l3 f1 f2 f3
    · have hno : ¬ ((sp_st n kd o1 o2 ms E t).1 = true ∨ (sp_st n kd o1 o2 ms E t).2.1.2 = true) := by rw [h, hcn]; decide
      rw [if_neg hno] at hS hG
      have hle := sp_cn_le n (sp_st n kd o1 o2 ms E t).2.1
      exact md_passes ih hfk hw hms (2 * n + 1) _ _ σ2 l3 Q (by omega) hcn (md_ci_fr f1 hc) (md_ms_fr f1 hm) gy f3 f4 f5 f6 f7 f2 (fun h σ4 u1 u2 => hS h σ4 (md_fr_tr f1 u1 (Nat.le_refl f)) u2) (fun h σ4 l4 u1 u2 u3 => hG h σ4 l4 (md_fr_tr f1 u1 (Nat.le_refl f)) u2 u3)
end M13
