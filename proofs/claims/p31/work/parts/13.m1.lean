theorem md_down {a b : Int} (h1 : ¬ 0 ≤ a) (h2 : 1 ≤ b ∧ b ≤ 1000) : -(((-a) + b - 1) / b) = a / b := by
  have hb : 0 < b := by omega
  have key : ∀ q : Int, q * b ≤ a → a < q * b + b → a / b = q := by
    intro q h3 h4
    have h5 := Int.le_ediv_of_mul_le hb h3
    have h6 := Int.ediv_lt_of_lt_mul hb (show a < (q + 1) * b by rw [Int.add_mul]; omega)
    omega
  have e1 := Int.emod_add_mul_ediv ((-a) + b - 1) b
  have e2 := Int.emod_nonneg ((-a) + b - 1) (show b ≠ 0 by omega)
  have e3 := Int.emod_lt_of_pos ((-a) + b - 1) hb
  generalize ((-a) + b - 1) / b = q at *
  have e4 : b * q = q * b := Int.mul_comm _ _
  have e5 : (-q) * b = -(q * b) := Int.neg_mul _ _
  exact (key (-q) (by rw [e5]; omega) (by rw [e5]; omega)).symm
def sp_tower (σ : sg_S) (a b : Int) : sg_S := if ¬ (0 ≤ a ∧ a ≤ 99) ∨ ¬ (1 ≤ b ∧ b ≤ 20) then st σ 0 0 1 else if σ 3 0 = 12 ∨ σ 2 0 ≠ 0 then st σ 0 0 2 else (st (st (st (st σ 0 0 0) 4 ((σ 3 0).toNat) a) 5 ((σ 3 0).toNat) b) 3 0 (σ 3 0 + 1))
def an_tower (σ : sg_S) (a b : Int) : Int := if ¬ (0 ≤ a ∧ a ≤ 99) ∨ ¬ (1 ≤ b ∧ b ≤ 20) then 0 else if σ 3 0 = 12 ∨ σ 2 0 ≠ 0 then 0 else σ 3 0
def sp_hill (σ : sg_S) (s a b : Int) : sg_S := if ¬ (0 ≤ s ∧ s ≤ σ 3 0 - 2) then st σ 0 0 1 else if ¬ (0 ≤ a ∧ a ≤ 99) ∨ ¬ (1 ≤ b ∧ b ≤ σ 5 (s.toNat + 1) - 1) then st σ 0 0 2 else if σ 8 s.toNat = 3 then st σ 0 0 3 else (st (st (st (st σ 0 0 0) 9 (3 * s.toNat + (σ 8 s.toNat).toNat) a) 10 (3 * s.toNat + (σ 8 s.toNat).toNat) b) 8 s.toNat (σ 8 s.toNat + 1))
def an_hill (σ : sg_S) (s a b : Int) : Int := if ¬ (0 ≤ s ∧ s ≤ σ 3 0 - 2) then 0 else if ¬ (0 ≤ a ∧ a ≤ 99) ∨ ¬ (1 ≤ b ∧ b ≤ σ 5 (s.toNat + 1) - 1) then 0 else if σ 8 s.toNat = 3 then 0 else σ 8 s.toNat + 1
def sp_air (σ : sg_S) (s a : Int) : sg_S := if ¬ (0 ≤ s ∧ s ≤ σ 3 0 - 2) then st σ 0 0 1 else if ¬ (0 ≤ a ∧ a ≤ 2) then st σ 0 0 2 else (st (st σ 0 0 0) 7 s.toNat a)
def an_air (σ : sg_S) (s a : Int) : Int := if ¬ (0 ≤ s ∧ s ≤ σ 3 0 - 2) then 0 else if ¬ (0 ≤ a ∧ a ≤ 2) then 0 else σ 7 s.toNat
def sp_tire (σ : sg_S) (t a : Int) : sg_S := if ¬ (0 ≤ t ∧ t ≤ σ 3 0 - 1) then st σ 0 0 1 else if ¬ (0 ≤ a ∧ a ≤ 1009) then st σ 0 0 2 else (st (st σ 0 0 0) 6 t.toNat a)
def an_tire (σ : sg_S) (t a : Int) : Int := if ¬ (0 ≤ t ∧ t ≤ σ 3 0 - 1) then 0 else if ¬ (0 ≤ a ∧ a ≤ 1009) then 0 else σ 6 t.toNat
def sp_seed (σ : sg_S) (a : Int) : sg_S := if ¬ (0 ≤ a ∧ a ≤ 9999) then st σ 0 0 1 else (st (st σ 0 0 0) 11 0 a)
def an_seed (σ : sg_S) (a : Int) : Int := if ¬ (0 ≤ a ∧ a ≤ 9999) then 0 else σ 11 0
def sp_type (σ : sg_S) (a : Int) : sg_S := if ¬ (0 ≤ a ∧ a ≤ 9999) then st σ 0 0 1 else if σ 24 0 = 12 then st σ 0 0 2 else (st (st (st σ 0 0 0) 25 ((σ 24 0).toNat) a) 24 0 (σ 24 0 + 1))
def an_type (σ : sg_S) (a : Int) : Int := if ¬ (0 ≤ a ∧ a ≤ 9999) then 0 else if σ 24 0 = 12 then 0 else σ 24 0 + 1
def sp_clear (σ : sg_S) : sg_S := (st (st σ 0 0 0) 24 0 0)
def an_clear (σ : sg_S) : Int := σ 24 0
def sp_writes (σ : sg_S) (w sg ow : Int) : sg_S := if σ 17 w.toNat < 300 then (st (st (st (st σ 18 (300 * w.toNat + (σ 17 w.toNat).toNat) (σ 1 0)) 19 (300 * w.toNat + (σ 17 w.toNat).toNat) sg) 20 (300 * w.toNat + (σ 17 w.toNat).toNat) ow) 17 w.toNat (σ 17 w.toNat + 1)) else σ
def sp_spy (σ : sg_S) (t : Int) : sg_S := if ¬ (0 ≤ t ∧ t ≤ σ 3 0 - 1) then st σ 0 0 1 else if σ 39 0 = 6 ∨ t = σ 3 0 - 1 then st σ 0 0 2 else (st (st (st σ 0 0 0) 40 ((σ 39 0).toNat) t) 39 0 (σ 39 0 + 1))
def an_spy (σ : sg_S) (t : Int) : Int := if ¬ (0 ≤ t ∧ t ≤ σ 3 0 - 1) then 0 else if σ 39 0 = 6 ∨ t = σ 3 0 - 1 then 0 else σ 39 0
def sp_minute (σ : sg_S) : sg_S := (st σ 0 0 0)
def an_minute (σ : sg_S) : Int := σ 1 0
def sp_towers (σ : sg_S) : sg_S := (st σ 0 0 0)
def an_towers (σ : sg_S) : Int := σ 3 0
def sp_shows (σ : sg_S) (t u : Int) : sg_S := if ¬ (0 ≤ t ∧ t ≤ σ 3 0 - 1) then st σ 0 0 1 else (st σ 0 0 0)
def an_shows (σ : sg_S) (t u : Int) : Int := if ¬ (0 ≤ t ∧ t ≤ σ 3 0 - 1) then 0 else σ 15 (2 * t.toNat + u.toNat)
def sp_keeps (σ : sg_S) (t u p : Int) : sg_S := if ¬ (0 ≤ t ∧ t ≤ σ 3 0 - 1) ∨ p < 0 then st σ 0 0 1 else (st σ 0 0 0)
def an_keeps (σ : sg_S) (t u p : Int) : Int := if ¬ (0 ≤ t ∧ t ≤ σ 3 0 - 1) ∨ p < 0 then 0 else if p < σ 12 (2 * t.toNat + u.toNat) then σ 14 (220 * (2 * t.toNat + u.toNat) + p.toNat) else -1
def sp_logs (σ : sg_S) (t u : Int) : sg_S := if ¬ (0 ≤ t ∧ t ≤ σ 3 0 - 1) then st σ 0 0 1 else (st σ 0 0 0)
def an_logs (σ : sg_S) (t u : Int) : Int := if ¬ (0 ≤ t ∧ t ≤ σ 3 0 - 1) then 0 else σ 17 (2 * t.toNat + u.toNat)
def sp_log (σ : sg_S) (t u n a : Int) : sg_S := if ¬ (0 ≤ t ∧ t ≤ σ 3 0 - 1) ∨ n < 0 then st σ 0 0 1 else if ¬ (0 ≤ a ∧ a ≤ 2) then st σ 0 0 2 else (st σ 0 0 0)
def an_log (σ : sg_S) (t u n a : Int) : Int := if ¬ (0 ≤ t ∧ t ≤ σ 3 0 - 1) ∨ n < 0 then 0 else if ¬ (0 ≤ a ∧ a ≤ 2) then 0 else if σ 17 (2 * t.toNat + u.toNat) ≤ n then -1 else if a = 0 then σ 18 (300 * (2 * t.toNat + u.toNat) + n.toNat) else if a = 1 then σ 19 (300 * (2 * t.toNat + u.toNat) + n.toNat) else σ 20 (300 * (2 * t.toNat + u.toNat) + n.toNat)
def sp_came (σ : sg_S) (u : Int) : sg_S := (st σ 0 0 0)
def an_came (σ : sg_S) (u : Int) : Int := σ 33 u.toNat
def sp_open (σ : sg_S) (u : Int) : sg_S := (st σ 0 0 0)
def an_open (σ : sg_S) (u : Int) : Int := σ 28 u.toNat
def sp_told (σ : sg_S) (u n a : Int) : sg_S := if ¬ (0 ≤ n ∧ n ≤ σ 33 u.toNat - 1) then st σ 0 0 1 else if ¬ (0 ≤ a ∧ a ≤ 3) then st σ 0 0 2 else (st σ 0 0 0)
def an_told (σ : sg_S) (u n a : Int) : Int := if ¬ (0 ≤ n ∧ n ≤ σ 33 u.toNat - 1) then 0 else if ¬ (0 ≤ a ∧ a ≤ 3) then 0 else if a = 0 then σ 35 (40 * u.toNat + n.toNat) else if a = 1 then σ 34 (40 * u.toNat + n.toNat) else if a = 2 then σ 37 (40 * u.toNat + n.toNat) / 2 else σ 36 (40 * u.toNat + n.toNat)
def sp_seen (σ : sg_S) (n : Int) : sg_S := if ¬ (0 ≤ n ∧ n ≤ σ 39 0 - 1) then st σ 0 0 1 else (st σ 0 0 0)
def an_seen (σ : sg_S) (n : Int) : Int := if ¬ (0 ≤ n ∧ n ≤ σ 39 0 - 1) then 0 else σ 41 n.toNat
def sp_comes (σ : sg_S) (a : Int) : sg_S := if ¬ (1 ≤ a ∧ a ≤ 99) then st σ 0 0 1 else (st σ 0 0 0)
def an_comes (σ : sg_S) (a : Int) : Int := if ¬ (1 ≤ a ∧ a ≤ 99) then 0 else if σ 3 0 < 2 then -1 else σ 3 0 + a - 1
def sp_comesAnew (σ : sg_S) (a : Int) : sg_S := if ¬ (1 ≤ a ∧ a ≤ 99) then st σ 0 0 1 else (st σ 0 0 0)
def an_comesAnew (σ : sg_S) (a : Int) : Int := if ¬ (1 ≤ a ∧ a ≤ 99) then 0 else if σ 3 0 < 2 then -1 else σ 3 0 + a - 1
def an_reads (σ : sg_S) (t sg : Int) : Int := if (31 * σ 1 0 + 17 * t + 7 * sg + σ 11 0) % 1009 < σ 6 t.toNat ∧ sg < 92 then (if sg % 2 = 0 then sg + 1 else sg - 1) else sg
