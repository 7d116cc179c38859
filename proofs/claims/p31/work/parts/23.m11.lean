/-- n drafts put in, one behind the other, from the place p on -/
def sp_si (σ : sg_S) (w p : Nat) : Nat → sg_S
  | 0 => σ
  | n + 1 => sp_kp (sp_si σ w p n) w (p + n) (σ 26 n)
theorem sp_si_f {σ : sg_S} {w p f j : Nat} (h1 : f ≠ 12) (h2 : f ≠ 14) : ∀ n, sp_si σ w p n f j = σ f j
  | 0 => rfl
  | n + 1 => by simp only [sp_si]; rw [sp_kp_f h1 h2]; exact sp_si_f h1 h2 n
theorem sp_si_12 {σ : sg_S} {w p : Nat} : ∀ n : Nat, sp_si σ w p n 12 w = σ 12 w + n
  | 0 => by simp [sp_si]
  | n + 1 => by simp only [sp_si]; rw [sp_kp_12, sp_si_12 n]; omega
theorem sp_si_wb {T : Int} {σ : sg_S} (hW : md_wb T σ) {w p : Nat} : ∀ n : Nat, σ 12 w + n ≤ 200 → md_wb T (sp_si σ w p n)
  | 0, _ => hW
  | n + 1, h => by
    have b := wb26 hW n
    exact sp_kp_wb (sp_si_wb hW n (by omega)) (by omega) (by rw [sp_si_12]; omega)
/-- the arm to which a text is sent -/
def sp_sw (σ : sg_S) (u : Int) : Nat := if σ 3 0 < 2 then 0 else if u = 0 then 2 * 0 + 1 else 2 * ((σ 3 0).toNat - 1) + 0
def an_sk (σ : sg_S) (b r : Int) : Int := if σ 3 0 < 2 ∨ σ 24 0 = 0 then -1 else an_mk (st σ 0 0 0) b.toNat r.toNat (σ 24 0).toNat 0
def sp_sk (σ : sg_S) (b r : Int) : sg_S := if σ 3 0 < 2 ∨ σ 24 0 = 0 then st σ 0 0 0 else sp_mk (st σ 0 0 0) b.toNat r.toNat (σ 24 0).toNat 0
def sp_sent (M : sg_S) (w : Nat) (r a : Int) : sg_S := st (sp_si (st (st M 0 0 0) 2 0 1) w (if r = 0 then (M 12 w).toNat else (M 13 w).toNat) a.toNat) 13 w (M 13 w + (if r = 0 then 0 else a))
def sp_send (σ : sg_S) (u b r : Int) : sg_S :=
  if ¬ (0 ≤ b ∧ b ≤ 2) then st σ 0 0 1
  else if an_sk σ b r = -1 ∨ 200 < σ 12 (sp_sw σ u) + an_sk σ b r then st (sp_sk σ b r) 0 0 2
  else sp_sent (sp_sk σ b r) (sp_sw σ u) r (an_sk σ b r)
def an_send (σ : sg_S) (u b r : Int) : Int :=
  if ¬ (0 ≤ b ∧ b ≤ 2) then 0
  else if an_sk σ b r = -1 ∨ 200 < σ 12 (sp_sw σ u) + an_sk σ b r then 0
  else σ 12 (sp_sw σ u) + an_sk σ b r
