def sp_nx (σ : sg_S) (w e : Nat) : Nat := sp_nxt σ w ((σ 17 w).toNat - e) e
theorem sp_nx_in {T : Int} {σ : sg_S} (hW : md_wb T σ) {w e : Nat} (he : e ≤ 301) : e ≤ sp_nx σ w e ∧ sp_nx σ w e ≤ 301 := by
  have h := sp_nxt_in (σ := σ) (w := w) ((σ 17 w).toNat - e) e
  have b := wb17 hW w
  unfold sp_nx
  omega
theorem sp_nxt_st {σ : sg_S} {f j : Nat} {v : Int} (h : f ≠ 20) {w : Nat} : ∀ n e, sp_nxt (st σ f j v) w n e = sp_nxt σ w n e
  | 0, _ => rfl
  | n + 1, e => by simp only [sp_nxt, sp_nxt_st h n, st_nf (Ne.symm h)]
theorem sp_nx_st {σ : sg_S} {f j : Nat} {v : Int} (h : f ≠ 20) (h2 : f ≠ 17) {w e : Nat} : sp_nx (st σ f j v) w e = sp_nx σ w e := by
  unfold sp_nx
  rw [sp_nxt_st h, st_nf (Ne.symm h2)]
def sp_df (σ : sg_S) (w v : Nat) : Nat → Nat → Nat → Int → Int
  | 0, _, _, _ => -1
  | n + 1, a, b, p => if (a : Int) < σ 17 w ∧ (b : Int) < σ 17 v then (if σ 19 (300 * w + a) ≠ σ 19 (300 * v + b) then p else sp_df σ w v n (sp_nx σ w (a + 1)) (sp_nx σ v (b + 1)) (p + 1)) else -1
def sp_differs (σ : sg_S) (t o u : Int) : sg_S := if ¬ (0 ≤ t ∧ t ≤ σ 3 0 - 1) ∨ ¬ (0 ≤ o ∧ o ≤ σ 3 0 - 1) then st σ 0 0 1 else st σ 0 0 0
def an_differs (σ : sg_S) (t o u : Int) : Int := if ¬ (0 ≤ t ∧ t ≤ σ 3 0 - 1) ∨ ¬ (0 ≤ o ∧ o ≤ σ 3 0 - 1) then 0 else sp_df σ (2 * t.toNat + u.toNat) (2 * o.toNat + u.toNat) 300 (sp_nx σ (2 * t.toNat + u.toNat) 0) (sp_nx σ (2 * o.toNat + u.toNat) 0) 0
def sp_tc (σ : sg_S) (b s : Nat) : Nat → Int
  | 0 => 0
  | i + 1 => sp_tc σ b s i + (if sp_fnd σ b (92 * σ 42 (200 * s + 2 * i) + σ 42 (200 * s + 2 * i + 1)) (σ 21 b).toNat = -1 then 0 else 1)
theorem sp_tc_in {σ : sg_S} {b s : Nat} : ∀ i : Nat, 0 ≤ sp_tc σ b s i ∧ sp_tc σ b s i ≤ i
  | 0 => by simp [sp_tc]
  | i + 1 => by
    have := sp_tc_in (σ := σ) (b := b) (s := s) i
    simp only [sp_tc]
    split <;> omega
def sp_tries (σ : sg_S) (a b : Int) : sg_S := if ¬ (0 ≤ a ∧ a ≤ σ 39 0 - 1) ∨ ¬ (0 ≤ b ∧ b ≤ 2) then st σ 0 0 1 else st σ 0 0 0
def an_tries (σ : sg_S) (a b : Int) : Int := if ¬ (0 ≤ a ∧ a ≤ σ 39 0 - 1) ∨ ¬ (0 ≤ b ∧ b ≤ 2) then 0 else sp_tc σ b.toNat a.toNat (σ 41 a.toNat / 2).toNat
def sp_mark (σ : sg_S) (t u e : Int) : sg_S := if ¬ (0 ≤ t ∧ t ≤ σ 3 0 - 1) then st σ 0 0 1 else if (t = if u = 0 then 0 else σ 3 0 - 1) ∨ 200 ≤ σ 12 (2 * t.toNat + u.toNat) then st σ 0 0 2 else sp_writes (sp_kp (st (st σ 0 0 0) 2 0 1) (2 * t.toNat + u.toNat) (σ 12 (2 * t.toNat + u.toNat)).toNat (if e = 0 then 95 else 94)) (2 * t + u) (if e = 0 then 95 else 94) 1
def an_mark (σ : sg_S) (t u e : Int) : Int := if ¬ (0 ≤ t ∧ t ≤ σ 3 0 - 1) then 0 else if (t = if u = 0 then 0 else σ 3 0 - 1) ∨ 200 ≤ σ 12 (2 * t.toNat + u.toNat) then 0 else σ 12 (2 * t.toNat + u.toNat) + 1
