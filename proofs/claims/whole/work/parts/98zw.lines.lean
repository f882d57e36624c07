/-! READ: line by line -/
theorem sp_fl {B : Nat → Int32} {t : Nat} {f : Nat → List Nat} {c : Nat} (ht : t ≤ 400) (hc : c ≤ 8) : ∀ g m d p nm cs v k q, m < 6 → p ≤ t → nm ≤ 40 → (m = 5 → p < t) → sp B t f c g m d p nm cs v k = some (.inl q) → q ≤ t := by
  intro g
  induction g with
  | zero => intro m d p nm cs v k q _ _ _ _ h; cases h
  | succ g ih =>
    intro m d p nm cs v k q hm hp hn h5 h
    have NX := nxT_le (B := B) hp
    have OK := fun m d p nm cs v k r => sp_ok (B := B) (f := f) ht hc g m d p nm cs v k r
    have il : ∀ {a b : Nat}, (some (.inl a) : SPr) = some (.inl b) → a = b := fun e => Sum.inl.inj (Option.some.inj e)
    have hm' : m = 0 ∨ m = 1 ∨ m = 2 ∨ m = 3 ∨ m = 4 ∨ m = 5 := by omega
    rcases hm' with rfl | rfl | rfl | rfl | rfl | rfl
    · rw [sp_0] at h
      rcases bnd_c h with ⟨q1, e1, e2⟩ | ⟨p1, nm1, cs1, v1, j1, e1, e2⟩
      · have := Sum.inl.inj e2; subst this
        exact ih 2 _ _ _ _ _ _ _ (by omega) hp hn (by omega) e1
      · obtain ⟨a1, a2, a3, a4, a5, -⟩ := OK _ _ _ _ _ _ _ _ (by omega) hp hn (by omega) e1
        exact ih 1 _ _ _ _ _ _ _ (by omega) a2 a5 (by omega) e2
    · rw [sp_1] at h
      split at h
      · rcases bnd_c h with ⟨q1, e1, e2⟩ | ⟨p1, nm1, cs1, v1, j1, e1, e2⟩
        · have := Sum.inl.inj e2; subst this
          exact ih 2 _ _ _ _ _ _ _ (by omega) NX.2.1 hn (by omega) e1
        · obtain ⟨a1, a2, a3, a4, a5, -⟩ := OK _ _ _ _ _ _ _ _ (by omega) NX.2.1 hn (by omega) e1
          exact ih 1 _ _ _ _ _ _ _ (by omega) a2 a5 (by omega) e2
      · cases h
    · rw [sp_2] at h
      rcases bnd_c h with ⟨q1, e1, e2⟩ | ⟨p1, nm1, cs1, v1, j1, e1, e2⟩
      · have := Sum.inl.inj e2; subst this
        exact ih 4 _ _ _ _ _ _ _ (by omega) hp hn (by omega) e1
      · obtain ⟨a1, a2, a3, a4, a5, -⟩ := OK _ _ _ _ _ _ _ _ (by omega) hp hn (by omega) e1
        exact ih 3 _ _ _ _ _ _ _ (by omega) a2 a5 (by omega) e2
    · rw [sp_3] at h
      split at h
      · rcases bnd_c h with ⟨q1, e1, e2⟩ | ⟨p1, nm1, cs1, v1, j1, e1, e2⟩
        · have := Sum.inl.inj e2; subst this
          exact ih 4 _ _ _ _ _ _ _ (by omega) NX.2.1 hn (by omega) e1
        · obtain ⟨a1, a2, a3, a4, a5, -⟩ := OK _ _ _ _ _ _ _ _ (by omega) NX.2.1 hn (by omega) e1
          exact ih 3 _ _ _ _ _ _ _ (by omega) a2 a5 (by omega) e2
      · cases h
    · rw [sp_4] at h
      unfold spP at h
      split at h
      · split at h
        · rcases bnd_c h with ⟨q1, e1, e2⟩ | ⟨p1, nm1, cs1, v1, j1, e1, e2⟩
          · have := Sum.inl.inj e2; subst this
            exact ih 4 _ _ _ _ _ _ _ (by omega) NX.2.1 hn (by omega) e1
          · cases e2
        · have := il h; omega
      · split at h
        · split at h
          · split at h
            · cases h
            · have := il h; omega
          · have := il h; omega
        · split at h
          · split at h
            · rcases bnd_c h with ⟨q1, e1, e2⟩ | ⟨p1, nm1, cs1, v1, j1, e1, e2⟩
              · have := Sum.inl.inj e2; subst this
                exact ih 0 _ _ _ _ _ _ _ (by omega) NX.2.1 hn (by omega) e1
              · obtain ⟨a1, a2, a3, a4, a5, -⟩ := OK _ _ _ _ _ _ _ _ (by omega) NX.2.1 hn (by omega) e1
                split at e2
                · cases e2
                · have := il e2; dsimp only at a2; omega
            · have := il h; omega
          · split at h
            · have N1 := nxT_le (B := B) (t := t) (p := nxT B t p) NX.2.1
              split at h
              · split at h
                · rename_i hk3
                  have lt3 := (kd_sn (s := 40) (by omega) hk3.1).2
                  rcases bnk_c h with ⟨q1, e1, e2⟩ | ⟨p1, nm1, cs1, v1, j1, e1, e2⟩
                  · have := Sum.inl.inj e2; subst this
                    exact ih 5 _ _ _ _ _ _ _ (by omega) N1.2.1 hn (fun _ => lt3) e1
                  · obtain ⟨a1, a2, a3, a4, a5, -⟩ := OK _ _ _ _ _ _ _ _ (by omega) N1.2.1 hn (fun _ => lt3) e1
                    split at e2
                    · cases e2
                    · have := il e2; dsimp only at a2; omega
                · have := il h; omega
              · have := il h; omega
            · have := il h; omega
    · rw [sp_5] at h
      have lt := h5 rfl
      rcases bnd_c h with ⟨q1, e1, e2⟩ | ⟨p1, nm1, cs1, v1, j1, e1, e2⟩
      · have := Sum.inl.inj e2; subst this
        exact ih 0 _ _ _ _ _ _ _ (by omega) NX.2.1 hn (by omega) e1
      · obtain ⟨a1, a2, a3, a4, a5, -⟩ := OK _ _ _ _ _ _ _ _ (by omega) NX.2.1 hn (by omega) e1
        split at e2
        · rename_i hk
          have lt1 := (kd_sn (s := 44) (by omega) hk).2
          exact ih 5 _ _ _ _ _ _ _ (by omega) a2 a5 (fun _ => lt1) e2
        · cases e2
theorem rsp_fl {B : Nat → Int32} {t : Nat} {f : Nat → List Nat} {c : Nat} : ∀ g p r z, p ≤ t → rsp B t f c g p r = some (.inl z) → z ≤ t := by
  intro g
  induction g with
  | zero => intro p r z _ e; cases e
  | succ g ih =>
    intro p r z hp e
    have M1 := nxT_le (B := B) (t := t) (p := p) hp
    have M2 := nxT_le (B := B) (t := t) (p := nxT B t p) M1.2.1
    rw [rsp] at e
    split at e
    · split at e
      · split at e
        · have := Sum.inl.inj (Option.some.inj e); omega
        · split at e
          · exact ih _ _ _ M2.2.1 e
          · cases e
      · have := Sum.inl.inj (Option.some.inj e); omega
    · have := Sum.inl.inj (Option.some.inj e); omega
/-- a line that tells an issue comes to an end within the text -/
theorem isp_tot {B : Nat → Int32} {t : Nat} {f : Nat → List Nat} {c p : Nat} (ht : t ≤ 400) (hc : c < 8) (hp : p < t) : ∃ o, isp B t f c 402 p = some o ∧ match o with | .inl q => q ≤ t | .inr z => p < z.1 ∧ z.1 ≤ t := by
  have M1 := nxT_le (B := B) (t := t) (p := p) (by omega)
  have M2 := nxT_le (B := B) (t := t) (p := nxT B t p) M1.2.1
  have M3 := nxT_le (B := B) (t := t) (p := nxT B t (nxT B t p)) M2.2.1
  have l1 := M1.2.2 hp
  unfold isp
  split
  · split
    · exact ⟨_, rfl, M1.2.1⟩
    · split
      · have R : ∃ x, (if kdT B t (nxT B t (nxT B t (nxT B t p))) = 4 then rsp B t f c 402 (nxT B t (nxT B t (nxT B t p))) 0 else some (.inr (nxT B t (nxT B t (nxT B t p)), 0))) = some x ∧ match x with | .inl q => q ≤ t | .inr z => p < z.1 ∧ z.1 ≤ t := by
          split
          · rename_i h4
            have lt4 := (kd_en (j := 4) (by omega) h4).2.1
            obtain ⟨x, hx⟩ := rsp_tot (B := B) (f := f) (c := c) (by omega) 402 _ 0 lt4 (by omega)
            refine ⟨x, hx, ?_⟩
            cases x with
            | inl q => exact rsp_fl 402 _ 0 q M3.2.1 hx
            | inr z =>
              have := rsp_ok (by omega) 402 _ 0 z.1 z.2 lt4 (Nat.two_pow_pos c) hx
              exact ⟨by omega, this.2.1⟩
          · exact ⟨_, rfl, by dsimp only; omega, M3.2.1⟩
        obtain ⟨x, hx, hb⟩ := R
        rw [hx]
        cases x with
        | inl q => exact ⟨_, rfl, hb⟩
        | inr z =>
          obtain ⟨p4, r⟩ := z
          dsimp only at hb
          have N4 := nxT_le (B := B) (t := t) (p := p4) hb.2
          unfold isp4
          dsimp only
          split
          · exact ⟨_, rfl, by dsimp only; omega, N4.2.1⟩
          · exact ⟨_, rfl, hb.2⟩
      · exact ⟨_, rfl, M2.2.1⟩
  · exact ⟨_, rfl, M1.2.1⟩
theorem bsp_le {B : Nat → Int32} {t p : Nat} {br : Nat → Nat} (hp : p < t) : match bsp B t p br with | .inl q => q ≤ t | .inr z => p < z.1 ∧ z.1 ≤ t := by
  have M1 := nxT_le (B := B) (t := t) (p := p) (by omega)
  have M2 := nxT_le (B := B) (t := t) (p := nxT B t p) M1.2.1
  have l1 := M1.2.2 hp
  unfold bsp
  by_cases h : kdT B t (nxT B t p) = 6 ∨ kdT B t (nxT B t p) = 7
  · rw [if_pos h]
    have Q := bsL_le (B := B) (t := t) (b0 := 3 * (kdT B t (nxT B t p) - 6)) 3 0 (nxT B t (nxT B t p)) br M2.2.1
    split
    · rename_i e; rw [e] at Q; exact Q
    · rename_i e; rw [e] at Q; exact ⟨by have := Q.1; omega, Q.2⟩
  · rw [if_neg h]; exact M1.2.1
theorem csp_tot {B : Nat → Int32} {t : Nat} {f : Nat → List Nat} {c p : Nat} (ht : t ≤ 400) (hc : c ≤ 8) (hp : p < t) : ∃ o, csp B t f c 4000 p = some o ∧ match o with | .inl q => q ≤ t | .inr z => p < z.1 ∧ z.1 ≤ t ∧ z.2.1 ≤ 40 ∧ le1 z.2.2.2.1 ∧ ev z.2.2.1 z.2.2.2.1 ∧ okc c z.2.2.1 ∧ z.2.2.1.length ≤ 400 := by
  have M1 := nxT_le (B := B) (t := t) (p := p) (by omega)
  have l1 := M1.2.2 hp
  obtain ⟨o1, h1⟩ := sp_tot (B := B) (f := f) ht hc 4000 0 0 (nxT B t p) 0 [] (fun _ => 0) 0 (by omega) M1.2.1 (by omega) (by omega) (by show 8 * (t - nxT B t p) + 5 < 4000; omega)
  unfold csp
  rw [h1]
  cases o1 with
  | inl q => exact ⟨_, rfl, sp_fl ht hc _ _ _ _ _ _ _ _ _ (by omega) M1.2.1 (by omega) (by omega) h1⟩
  | inr r =>
    obtain ⟨p1, nm1, cs1, v1, j1⟩ := r
    obtain ⟨a1, a2, a3, a4, a5, a6⟩ := sp_ok ht hc _ _ _ _ _ _ _ _ _ (by omega) M1.2.1 (by omega) (by omega) h1
    rw [if_neg (by omega), if_neg (by omega)] at a6
    dsimp only at a1 a2 a5 a6
    have N4 := nxT_le (B := B) (t := t) (p := p1) a2
    unfold bnd
    dsimp only
    split
    · exact ⟨_, rfl, by dsimp only; omega, N4.2.1, a5, a6.2.1, a6.2.2.1, a6.2.2.2, by dsimp only; omega⟩
    · exact ⟨_, rfl, a2⟩
