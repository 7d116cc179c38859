theorem sp_si_12o {σ : sg_S} {w p v : Nat} (h : v ≠ w) : ∀ n : Nat, sp_si σ w p n 12 v = σ 12 v
  | 0 => rfl
  | n + 1 => by
    simp only [sp_si]
    have e : ∀ τ : sg_S, sp_kp τ w (p + n) (σ 26 n) 12 v = τ 12 v := fun τ => by simp [sp_kp, h]
    rw [e]
    exact sp_si_12o h n
theorem sp_sk_f {σ : sg_S} {b r : Int} {f j : Nat} (h : f ≠ 26 ∧ f ≠ 0) : sp_sk σ b r f j = σ f j := by
  unfold sp_sk
  split
  · rw [st_nf h.2]
  · rw [sp_mk_f h.1, st_nf h.2]
theorem sg_V_send {σ : sg_S} (hV : sg_V σ) {u b r : Int} : sg_V (sp_send σ u b r) := by
  unfold sp_send
  split
  · exact sg_V_of (fun f j h => st_nf (by omega)) hV
  · split
    · exact sg_V_of (fun f j h => by rw [st_nf (by omega), sp_sk_f (by omega)]) hV
    · rename_i h1 h2
      obtain ⟨a, ha⟩ : ∃ a, a = an_sk σ b r := ⟨_, rfl⟩
      obtain ⟨w, hw⟩ : ∃ w, w = sp_sw σ u := ⟨_, rfl⟩
      rw [← ha, ← hw] at h2 ⊢
      have qa : 0 ≤ a := by
        have z : a = -1 ∨ 0 ≤ a := by
          rw [ha]
          unfold an_sk
          split
          · exact Or.inl rfl
          · rcases an_mk_in (σ := st σ 0 0 0) (b := b.toNat) (u := r.toNat) (σ 24 0).toNat 0 with z | z
            · exact Or.inl z
            · exact Or.inr (by omega)
        omega
      intro v
      have hv := hV v
      have hw2 := hV w
      unfold sp_sent
      by_cases c : v = w
      · subst c
        rw [st_eq, st_nf (by decide), sp_si_12, st_nf (by decide), st_nf (by decide), sp_sk_f (by decide), sp_sk_f (by decide)]
        split <;> omega
      · rw [st_ni c, st_nf (by decide), sp_si_12o c, sp_si_f (by decide) (by decide), st_nf (by decide), st_nf (by decide), st_nf (by decide), st_nf (by decide), sp_sk_f (by decide), sp_sk_f (by decide)]
        exact hv
theorem sg_V_mark {σ : sg_S} (hV : sg_V σ) {t u e : Int} : sg_V (sp_mark σ t u e) := by
  unfold sp_mark
  split
  · exact sg_V_of (fun f j h => st_nf (by omega)) hV
  · by_cases c : (t = if u = 0 then 0 else σ 3 0 - 1) ∨ 200 ≤ σ 12 (2 * t.toNat + u.toNat)
    · rw [if_pos c]
      exact sg_V_of (fun f j h => st_nf (by omega)) hV
    · rw [if_neg c]
      exact sg_V_of (fun f j h => sp_writes_f (by omega)) (sg_V_kp (sg_V_of (fun f j h => by rw [st_nf (by omega), st_nf (by omega)]) hV))

