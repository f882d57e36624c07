/-! THE PICTURE MACHINE, 12: all that ip_heap does is the machine's -/
theorem ip_sa {a : Nat} (h : 1000000000 ≤ a) : 1000000000 + (a - 1000000000) = a := by omega
theorem ip_sb {a : Nat} (h : 1000000000 ≤ a) (h2 : a < 1000000039) : a - 1000000000 < 39 := by omega
section IPX
variable {G : ip_G} {p : Program} {l : Launch} {e : Env} {R : Room} {s : State} {mid : MethodId} {args : Array Value} {below : List Frame} {meth : Method} {c : Code} {Q : State → Prop} {m d n0 s0 : Nat}
variable {pc : Nat} {lsA : Array Slot} {st st' : List Value} {h h' : ip_H}
theorem ip_spi_ok {idx : Nat} {ks : List Nat} (h9 : ip_spi m idx ks st h = some (st', h')) : ∃ k, k ∈ ks ∧ ip_spc (ip_own m) idx = some k ∧ ip_spec k st h = some (st', h') := by
  unfold ip_spi at h9
  split at h9
  · rename_i k hk
    obtain ⟨hm, h8⟩ := ip_if h9
    exact ⟨k, hm, hk, h8⟩
  · cases h9
set_option maxHeartbeats 4000000 in
theorem ip_heap_ok (F : ip_Fr G p l R s mid args meth c m d) (hz : lsA.size = ip_mL m) {i : Instr} {len : Nat} (hd : decode (ip_code m) pc = .ok (i, len)) (h9 : ip_heap m i len st h = some (st', h')) (hRc : h'.2.2.2.2.1 ≤ R.cells + n0) (hRs : h'.2.2.2.2.2.1 ≤ R.slots + s0) (K : ip_Nx G p l e R s mid args below meth c Q n0 s0 (pc + len) lsA st' h') : ip_Nx G p l e R s mid args below meth c Q n0 s0 pc lsA st h := by
  cases i with
  | getfield idx =>
    obtain ⟨rfl, h8⟩ := ip_if h9
    exact ip_getf_ok F hd h8 K
  | putfield idx =>
    obtain ⟨rfl, h8⟩ := ip_if h9
    exact ip_putf_ok F hd h8 K
  | iaload =>
    obtain ⟨rfl, h8⟩ := ip_if h9
    exact ip_iald_ok F hd h8 K
  | baload =>
    obtain ⟨rfl, h8⟩ := ip_if h9
    exact ip_zald_ok F hd h8 K
  | laload =>
    obtain ⟨rfl, h8⟩ := ip_if h9
    exact ip_lald_ok F hd h8 K
  | aaload =>
    obtain ⟨rfl, h8⟩ := ip_if h9
    exact ip_aald_ok F hd h8 K
  | iastore =>
    obtain ⟨rfl, h8⟩ := ip_if h9
    exact ip_iast_ok F hd h8 K
  | bastore =>
    obtain ⟨rfl, h8⟩ := ip_if h9
    exact ip_zast_ok F hd h8 K
  | lastore =>
    obtain ⟨rfl, h8⟩ := ip_if h9
    exact ip_last_ok F hd h8 K
  | aastore =>
    obtain ⟨rfl, h8⟩ := ip_if h9
    exact ip_aast_ok F hd h8 K
  | arraylength =>
    obtain ⟨rfl, h8⟩ := ip_if h9
    exact ip_alen_ok F hd h8 K
  | new idx =>
    obtain ⟨rfl, h8⟩ := ip_if h9
    exact ip_new_ok F hd h8 hRc hRs K
  | newarray t =>
    obtain ⟨rfl, h8⟩ := ip_if h9
    exact ip_newa_ok F hd h8 hRc hRs K
  | anewarray idx =>
    obtain ⟨rfl, h8⟩ := ip_if h9
    exact ip_anew_ok F hd h8 hRc hRs K
  | getstatic idx =>
    obtain ⟨⟨rfl, ho, rfl⟩, h8⟩ := ip_if h9
    cases h8
    exact ip_gets_ok F hd ho K
  | ldc idx =>
    obtain ⟨rfl, h8⟩ := ip_if h9
    exact ip_ldc_ok F hd h8 K
  | ldc_w idx =>
    obtain ⟨rfl, h8⟩ := ip_if h9
    exact ip_ldcw_ok F hd h8 K
  | ldc2_w idx =>
    obtain ⟨rfl, h8⟩ := ip_if h9
    split at h8
    · rename_i v hv
      cases h8
      exact ip_ldc2_ok F hd hv K
    · cases h8
  | invokespecial idx =>
    obtain ⟨rfl, h8⟩ := ip_if h9
    obtain ⟨k, hm, hk, h7⟩ := ip_spi_ok h8
    have e0 : k = 0 := by simpa using hm
    subst e0
    have h6 : ip_s0 st h = some (st', h') := h7
    unfold ip_s0 at h6
    split at h6
    · obtain ⟨hcat, h5⟩ := ip_if h6
      cases h5
      exact ip_oi_ok F hz hd hk hcat K
    · cases h6
  | invokevirtual idx =>
    obtain ⟨rfl, h8⟩ := ip_if h9
    obtain ⟨k, hm, hk, h7⟩ := ip_spi_ok h8
    have e0 : k = 1 ∨ k = 2 := by simpa using hm
    rcases e0 with rfl | rfl
    · have h6 : ip_s1 st h = some (st', h') := h7
      unfold ip_s1 at h6
      split at h6
      · rename_i a r
        obtain ⟨⟨hcat, ha1, ha2⟩, h5⟩ := ip_if h6
        cases h5
        have ea : 1000000000 + (a - 1000000000) = a := ip_sa ha1
        have q := ip_slen_ok (i := a - 1000000000) F hz (ip_sb ha1 ha2) hd hk hcat hRc hRs K
        rw [ea] at q
        exact q
      · cases h6
    · have h6 : ip_s2 st h = some (st', h') := h7
      unfold ip_s2 at h6
      split at h6
      · rename_i j a r
        obtain ⟨⟨hcat, ha1, ha2, hj⟩, h5⟩ := ip_if h6
        cases h5
        have ea : 1000000000 + (a - 1000000000) = a := ip_sa ha1
        have q := ip_schr_ok (i := a - 1000000000) F hz (ip_sb ha1 ha2) (fun z => hj (Or.inl z)) (Nat.not_le.mp fun z => hj (Or.inr z)) hd hk hcat hRc hRs K
        rw [ea] at q
        exact q
      · cases h6
  | invokestatic idx =>
    obtain ⟨rfl, h8⟩ := ip_if h9
    obtain ⟨k, hm, hk, h7⟩ := ip_spi_ok h8
    have e0 : k = 3 ∨ k = 4 := by simpa using hm
    rcases e0 with rfl | rfl
    · have h6 : ip_s3 st h = some (st', h') := h7
      unfold ip_s3 at h6
      split at h6
      · split at h6
        · rename_i t la u lb hsa hsb
          obtain ⟨⟨hcat, ha2, hb2, rfl, h1, h2, h3, h4, h5⟩, h5'⟩ := ip_if h6
          exact ip_copy_ok F hz hd hk hcat ha2 hb2 hsa hsb h1 h2 h3 h4 h5 h5' K
        · cases h6
      · cases h6
    · have h6 : ip_s4 st h = some (st', h') := h7
      unfold ip_s4 at h6
      split at h6
      · obtain ⟨hcat, h5⟩ := ip_if h6
        cases h5
        exact ip_min_ok F hz hd hk hcat hRc hRs K
      · cases h6
  | _ => exact nomatch (show (none : ip_K) = some (st', h') from h9)
end IPX
