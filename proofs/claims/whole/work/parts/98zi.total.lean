/-! READ: a claim always comes to an end -/
theorem bnd_t {r : SPr} {F : Nat → Nat → List CD → (Nat → Nat) → SPr} (h : ∃ o, r = some o) (g : ∀ p nm cs v j, r = some (.inr (p, nm, cs, v, j)) → ∃ o, F p nm cs v = some o) : ∃ o, bnd r F = some o := by
  obtain ⟨o, rfl⟩ := h
  cases o with
  | inl q => exact ⟨_, rfl⟩
  | inr x => obtain ⟨p, nm, cs, v, j⟩ := x; exact g p nm cs v j rfl
theorem bnk_t {r : SPr} {F : Nat → Nat → List CD → (Nat → Nat) → Nat → SPr} (h : ∃ o, r = some o) (g : ∀ p nm cs v j, r = some (.inr (p, nm, cs, v, j)) → ∃ o, F p nm cs v j = some o) : ∃ o, bnk r F = some o := by
  obtain ⟨o, rfl⟩ := h
  cases o with
  | inl q => exact ⟨_, rfl⟩
  | inr x => obtain ⟨p, nm, cs, v, j⟩ := x; exact g p nm cs v j rfl
def rkM (m : Nat) : Nat := if m = 0 then 5 else if m = 2 then 4 else if m = 4 then 3 else 0
theorem sp_tot {B : Nat → Int32} {t : Nat} {f : Nat → List Nat} {c : Nat} (ht : t ≤ 400) (hc : c ≤ 8) : ∀ g m d p nm cs v k, m < 6 → p ≤ t → nm ≤ 40 → (m = 5 → p < t) → 8 * (t - p) + rkM m < g → ∃ o, sp B t f c g m d p nm cs v k = some o := by
  intro g
  induction g with
  | zero => intro m d p nm cs v k _ _ _ _ h; omega
  | succ g ih =>
    intro m d p nm cs v k hm hp hn h5 h
    have NX := nxT_le (B := B) hp
    have OK := fun m d p nm cs v k r => sp_ok (B := B) (f := f) ht hc g m d p nm cs v k r
    have hm' : m = 0 ∨ m = 1 ∨ m = 2 ∨ m = 3 ∨ m = 4 ∨ m = 5 := by omega
    rcases hm' with rfl | rfl | rfl | rfl | rfl | rfl
    · have h : 8 * (t - p) + 5 < g + 1 := h
      rw [sp_0]
      refine bnd_t (ih 2 _ _ _ _ _ _ (by omega) hp hn (by omega) (by show 8 * (t - p) + 4 < g; omega)) (fun p1 nm1 cs1 v1 j1 e1 => ?_)
      obtain ⟨a1, a2, a3, a4, a5, -⟩ := OK _ _ _ _ _ _ _ _ (by omega) hp hn (by omega) e1
      have a3 := a3 (by omega)
      dsimp only at *
      exact ih 1 _ _ _ _ _ _ (by omega) a2 a5 (by omega) (by show 8 * (t - p1) + 0 < g; omega)
    · have h : 8 * (t - p) + 0 < g + 1 := h
      rw [sp_1]
      split
      · rename_i hk
        have lt := (kd_en (j := 9) (by omega) hk).2.1
        have NX3 := NX.2.2 lt
        refine bnd_t (ih 2 _ _ _ _ _ _ (by omega) NX.2.1 hn (by omega) (by show 8 * (t - nxT B t p) + 4 < g; omega)) (fun p1 nm1 cs1 v1 j1 e1 => ?_)
        obtain ⟨a1, a2, a3, a4, a5, -⟩ := OK _ _ _ _ _ _ _ _ (by omega) NX.2.1 hn (by omega) e1
        dsimp only at *
        exact ih 1 _ _ _ _ _ _ (by omega) a2 a5 (by omega) (by show 8 * (t - p1) + 0 < g; omega)
      · exact ⟨_, rfl⟩
    · have h : 8 * (t - p) + 4 < g + 1 := h
      rw [sp_2]
      refine bnd_t (ih 4 _ _ _ _ _ _ (by omega) hp hn (by omega) (by show 8 * (t - p) + 3 < g; omega)) (fun p1 nm1 cs1 v1 j1 e1 => ?_)
      obtain ⟨a1, a2, a3, a4, a5, -⟩ := OK _ _ _ _ _ _ _ _ (by omega) hp hn (by omega) e1
      have a3 := a3 (by omega)
      dsimp only at *
      exact ih 3 _ _ _ _ _ _ (by omega) a2 a5 (by omega) (by show 8 * (t - p1) + 0 < g; omega)
    · have h : 8 * (t - p) + 0 < g + 1 := h
      rw [sp_3]
      split
      · rename_i hk
        have lt := (kd_en (j := 10) (by omega) hk).2.1
        have NX3 := NX.2.2 lt
        refine bnd_t (ih 4 _ _ _ _ _ _ (by omega) NX.2.1 hn (by omega) (by show 8 * (t - nxT B t p) + 3 < g; omega)) (fun p1 nm1 cs1 v1 j1 e1 => ?_)
        obtain ⟨a1, a2, a3, a4, a5, -⟩ := OK _ _ _ _ _ _ _ _ (by omega) NX.2.1 hn (by omega) e1
        dsimp only at *
        exact ih 3 _ _ _ _ _ _ (by omega) a2 a5 (by omega) (by show 8 * (t - p1) + 0 < g; omega)
      · exact ⟨_, rfl⟩
    · have h : 8 * (t - p) + 3 < g + 1 := h
      rw [sp_4]
      unfold spP
      split
      · rename_i hk
        have lt := (kd_en (j := 11) (by omega) hk).2.1
        have NX3 := NX.2.2 lt
        split
        · exact bnd_t (ih 4 _ _ _ _ _ _ (by omega) NX.2.1 hn (by omega) (by show 8 * (t - nxT B t p) + 3 < g; omega)) (fun p1 nm1 cs1 v1 j1 e1 => ⟨_, rfl⟩)
        · exact ⟨_, rfl⟩
      · split
        · split
          · split
            · exact ⟨_, rfl⟩
            · exact ⟨_, rfl⟩
          · exact ⟨_, rfl⟩
        · split
          · rename_i hk
            have lt := (kd_sn (s := 40) (by omega) hk).2
            have NX3 := NX.2.2 lt
            split
            · refine bnd_t (ih 0 _ _ _ _ _ _ (by omega) NX.2.1 hn (by omega) (by show 8 * (t - nxT B t p) + 5 < g; omega)) (fun p1 nm1 cs1 v1 j1 e1 => ?_)
              split
              · exact ⟨_, rfl⟩
              · exact ⟨_, rfl⟩
            · exact ⟨_, rfl⟩
          · split
            · rename_i hk
              have lt := (kd_14e hk).2
              have NX3 := NX.2.2 lt
              have N1 := nxT_le (B := B) (t := t) (p := nxT B t p) NX.2.1
              split
              · split
                · rename_i hk3
                  have lt3 := (kd_sn (s := 40) (by omega) hk3.1).2
                  refine bnk_t (ih 5 _ _ _ _ _ _ (by omega) N1.2.1 hn (fun _ => lt3) (by show 8 * (t - nxT B t (nxT B t p)) + 0 < g; omega)) (fun p1 nm1 cs1 v1 j1 e1 => ?_)
                  split
                  · exact ⟨_, rfl⟩
                  · exact ⟨_, rfl⟩
                · exact ⟨_, rfl⟩
              · exact ⟨_, rfl⟩
            · exact ⟨_, rfl⟩
    · have h : 8 * (t - p) + 0 < g + 1 := h
      have lt := h5 rfl
      have NX3 := NX.2.2 lt
      rw [sp_5]
      refine bnd_t (ih 0 _ _ _ _ _ _ (by omega) NX.2.1 hn (by omega) (by show 8 * (t - nxT B t p) + 5 < g; omega)) (fun p1 nm1 cs1 v1 j1 e1 => ?_)
      obtain ⟨a1, a2, a3, a4, a5, -⟩ := OK _ _ _ _ _ _ _ _ (by omega) NX.2.1 hn (by omega) e1
      split
      · rename_i hk
        have lt1 := (kd_sn (s := 44) (by omega) hk).2
        dsimp only at *
        exact ih 5 _ _ _ _ _ _ (by omega) a2 a5 (fun _ => lt1) (by show 8 * (t - p1) + 0 < g; omega)
      · exact ⟨_, rfl⟩
