/-! THE PICTURE MACHINE, 4: the heap is a picture: sh (by places: kind and length; kind below 9 a class, 100 int[], 101 long[], 102 boolean[], 103 Node[], place 0 the script (105), place 1 the static long[] (106)), ints, longs, references by place and slot; cells and slots made so far; whether the heap's size is no longer followed. -/
abbrev ip_H : Type := List (Nat × Nat) × (Nat → Nat → Int32) × (Nat → Nat → Int64) × (Nat → Nat → Option Nat) × Nat × Nat × Bool
/-- how a method ends: an answer (none: void), or the name of an exception -/
abbrev ip_O : Type := Option Value ⊕ String
def ip_up {α : Type} (f : Nat → Nat → α) (a k : Nat) (v : α) : Nat → Nat → α := fun x j => if x = a then (if j = k then v else f x j) else f x j
def ip_row {α : Type} (f : Nat → Nat → α) (a : Nat) (g : Nat → α) : Nat → Nat → α := fun x j => if x = a then g j else f x j
def ip_rf (o : Option Nat) : Value := match o with
  | none => .null
  | some b => .ref b
def ip_rd (h : ip_H) (ci a k : Nat) : Value := match ip_ft ci k with
  | 2 => .long (h.2.2.1 a k)
  | 3 => ip_rf (h.2.2.2.1 a k)
  | _ => .int (h.2.1 a k)
def ip_wr (h : ip_H) (ci a k : Nat) (v : Value) : Option ip_H := match ip_ft ci k, v with
  | 0, .int x => some (h.1, ip_up h.2.1 a k x, h.2.2)
  | 1, .int x => if x = 0 ∨ x = 1 then some (h.1, ip_up h.2.1 a k x, h.2.2) else none
  | 2, .long x => some (h.1, h.2.1, ip_up h.2.2.1 a k x, h.2.2.2)
  | 3, .ref b => some (h.1, h.2.1, h.2.2.1, ip_up h.2.2.2.1 a k (some b), h.2.2.2.2)
  | _, _ => none
abbrev ip_K : Type := Option (List Value × ip_H)
def ip_getf (own idx : Nat) (st : List Value) (h : ip_H) : ip_K := match st, ip_fld own idx with
  | .ref a :: r, some (ci, k) => match h.1[a]? with
    | some (t, _) => if t = ci ∧ 2 ≤ a then some (ip_rd h ci a k :: r, h) else none
    | none => none
  | _, _ => none
def ip_putf (m own idx : Nat) (st : List Value) (h : ip_H) : ip_K := match st, ip_fld own idx with
  | v :: .ref a :: r, some (ci, k) => match h.1[a]? with
    | some (t, _) => if t = ci ∧ 2 ≤ a ∧ ((ip_T ci k).2.2.2 = true → (ip_y m).name = "<init>" ∧ ci = own) then (ip_wr h ci a k v).map (fun h' => (r, h')) else none
    | none => none
  | _, _ => none
def ip_iald (st : List Value) (h : ip_H) : ip_K := match st with
  | .int j :: .ref a :: r => match h.1[a]? with
    | some (t, n) => if ((t = 100 ∧ 2 ≤ a) ∨ (t = 105 ∧ a = 0)) ∧ ¬ (j < 0 ∨ n ≤ j.toNatClampNeg) then some (.int (h.2.1 a j.toNatClampNeg) :: r, h) else none
    | none => none
  | _ => none
def ip_zald (st : List Value) (h : ip_H) : ip_K := match st with
  | .int j :: .ref a :: r => match h.1[a]? with
    | some (t, n) => if (t = 102 ∧ 2 ≤ a) ∧ ¬ (j < 0 ∨ n ≤ j.toNatClampNeg) then some (.int (h.2.1 a j.toNatClampNeg) :: r, h) else none
    | none => none
  | _ => none
def ip_lald (st : List Value) (h : ip_H) : ip_K := match st with
  | .int j :: .ref a :: r => match h.1[a]? with
    | some (t, n) => if ((t = 101 ∧ 2 ≤ a) ∨ (t = 106 ∧ a = 1)) ∧ ¬ (j < 0 ∨ n ≤ j.toNatClampNeg) then some (.long (h.2.2.1 a j.toNatClampNeg) :: r, h) else none
    | none => none
  | _ => none
def ip_aald (st : List Value) (h : ip_H) : ip_K := match st with
  | .int j :: .ref a :: r => match h.1[a]? with
    | some (t, n) => if (t = 103 ∧ 2 ≤ a) ∧ ¬ (j < 0 ∨ n ≤ j.toNatClampNeg) then some (ip_rf (h.2.2.2.1 a j.toNatClampNeg) :: r, h) else none
    | none => none
  | _ => none
def ip_iast (st : List Value) (h : ip_H) : ip_K := match st with
  | .int x :: .int j :: .ref a :: r => match h.1[a]? with
    | some (t, n) => if (t = 100 ∧ 2 ≤ a) ∧ ¬ (j < 0 ∨ n ≤ j.toNatClampNeg) then some (r, h.1, ip_up h.2.1 a j.toNatClampNeg x, h.2.2) else none
    | none => none
  | _ => none
def ip_zast (st : List Value) (h : ip_H) : ip_K := match st with
  | .int x :: .int j :: .ref a :: r => match h.1[a]? with
    | some (t, n) => if (t = 102 ∧ 2 ≤ a) ∧ ¬ (j < 0 ∨ n ≤ j.toNatClampNeg) ∧ (x = 0 ∨ x = 1) then some (r, h.1, ip_up h.2.1 a j.toNatClampNeg x, h.2.2) else none
    | none => none
  | _ => none
def ip_last (st : List Value) (h : ip_H) : ip_K := match st with
  | .long x :: .int j :: .ref a :: r => match h.1[a]? with
    | some (t, n) => if (t = 101 ∧ 2 ≤ a) ∧ ¬ (j < 0 ∨ n ≤ j.toNatClampNeg) then some (r, h.1, h.2.1, ip_up h.2.2.1 a j.toNatClampNeg x, h.2.2.2) else none
    | none => none
  | _ => none
def ip_aast (st : List Value) (h : ip_H) : ip_K := match st with
  | .ref b :: .int j :: .ref a :: r => match h.1[a]?, h.1[b]? with
    | some (t, n), some (u, _) => if (t = 103 ∧ 2 ≤ a) ∧ (u = 1 ∧ 2 ≤ b) ∧ ¬ (j < 0 ∨ n ≤ j.toNatClampNeg) then some (r, h.1, h.2.1, h.2.2.1, ip_up h.2.2.2.1 a j.toNatClampNeg (some b), h.2.2.2.2) else none
    | _, _ => none
  | _ => none
def ip_alen (st : List Value) (h : ip_H) : ip_K := match st with
  | .ref a :: r => match h.1[a]? with
    | some (t, n) => if ((t = 100 ∨ t = 101 ∨ t = 102 ∨ t = 103) ∧ 2 ≤ a) ∨ (t = 105 ∧ a = 0) then some (.int (Int32.ofNat n) :: r, h) else none
    | none => none
  | _ => none
/-- a new cell of a kind, n long -/
def ip_mk (t n : Nat) (h : ip_H) : ip_H := (h.1 ++ [(t, n)], ip_row h.2.1 h.1.length (fun _ => 0), ip_row h.2.2.1 h.1.length (fun _ => 0), ip_row h.2.2.2.1 h.1.length (fun _ => none), h.2.2.2.2.1 + 1, h.2.2.2.2.2.1 + n, h.2.2.2.2.2.2)
def ip_new (own idx : Nat) (st : List Value) (h : ip_H) : ip_K := match ip_kls own idx with
  | some ci => if h.2.2.2.2.2.2 = false ∧ h.1.length < 600000 then some (.ref h.1.length :: st, ip_mk ci (ip_nf ci) h) else none
  | none => none
def ip_newa (t : ArrayType) (st : List Value) (h : ip_H) : ip_K := match t, st with
  | .int, .int n :: r => if h.2.2.2.2.2.2 = false ∧ h.1.length < 600000 ∧ ¬ n < 0 ∧ n.toNatClampNeg ≤ 1000 then some (.ref h.1.length :: r, ip_mk 100 n.toNatClampNeg h) else none
  | .long, .int n :: r => if h.2.2.2.2.2.2 = false ∧ h.1.length < 600000 ∧ ¬ n < 0 ∧ n.toNatClampNeg ≤ 1000 then some (.ref h.1.length :: r, ip_mk 101 n.toNatClampNeg h) else none
  | .boolean, .int n :: r => if h.2.2.2.2.2.2 = false ∧ h.1.length < 600000 ∧ ¬ n < 0 ∧ n.toNatClampNeg ≤ 1000 then some (.ref h.1.length :: r, ip_mk 102 n.toNatClampNeg h) else none
  | _, _ => none
def ip_anew (own idx : Nat) (st : List Value) (h : ip_H) : ip_K := match ip_kls own idx, st with
  | some 1, .int n :: r => if h.2.2.2.2.2.2 = false ∧ h.1.length < 600000 ∧ ¬ n < 0 ∧ n.toNatClampNeg ≤ 1000 then some (.ref h.1.length :: r, ip_mk 103 n.toNatClampNeg h) else none
  | _, _ => none
def ip_ldc (own idx : Nat) (st : List Value) (h : ip_H) : ip_K := match ip_kin own idx with
  | some v => some (.int v :: st, h)
  | none => match ip_str own idx with
    | some i => some (.ref (1000000000 + i) :: st, h)
    | none => none
def ip_cat (st : List Value) : Nat := (st.map fun v => v.category).sum
/-- Object(), String.length, String.charAt, System.arraycopy, Math.min -/
def ip_s0 (st : List Value) (h : ip_H) : ip_K := match st with
  | .ref _ :: r => if ip_cat r ≤ 8 then some (r, h) else none
  | _ => none
def ip_s1 (st : List Value) (h : ip_H) : ip_K := match st with
  | .ref a :: r => if ip_cat r ≤ 8 ∧ 1000000000 ≤ a ∧ a < 1000000039 then some (.int (Int32.ofNat (ip_tb.getD (a - 1000000000) []).length) :: r, h) else none
  | _ => none
def ip_s2 (st : List Value) (h : ip_H) : ip_K := match st with
  | .int j :: .ref a :: r => if ip_cat r ≤ 8 ∧ 1000000000 ≤ a ∧ a < 1000000039 ∧ ¬ (j < 0 ∨ (ip_tb.getD (a - 1000000000) []).length ≤ j.toNatClampNeg) then some (.int (Int32.ofNat ((ip_tb.getD (a - 1000000000) []).getD j.toNatClampNeg 0)) :: r, h) else none
  | _ => none
def ip_cpk (t a b sp dp n : Nat) (r : List Value) (h : ip_H) : ip_K := match t with
  | 100 => some (r, h.1, ip_row h.2.1 a (va_cpy (h.2.1 b) (h.2.1 a) sp dp n), h.2.2.1, h.2.2.2.1, h.2.2.2.2.1, h.2.2.2.2.2.1, true)
  | 101 => some (r, h.1, h.2.1, ip_row h.2.2.1 a (va_cpy (h.2.2.1 b) (h.2.2.1 a) sp dp n), h.2.2.2.1, h.2.2.2.2.1, h.2.2.2.2.2.1, true)
  | _ => none
def ip_s3 (st : List Value) (h : ip_H) : ip_K := match st with
  | .int n :: .int dp :: .ref a :: .int sp :: .ref b :: r => match h.1[a]?, h.1[b]? with
    | some (t, la), some (u, lb) => if ip_cat r ≤ 8 ∧ 2 ≤ a ∧ 2 ≤ b ∧ t = u ∧ ¬ sp < 0 ∧ ¬ dp < 0 ∧ ¬ n < 0 ∧ sp.toNatClampNeg + n.toNatClampNeg ≤ lb ∧ dp.toNatClampNeg + n.toNatClampNeg ≤ la then ip_cpk t a b sp.toNatClampNeg dp.toNatClampNeg n.toNatClampNeg r h else none
    | _, _ => none
  | _ => none
def ip_s4 (st : List Value) (h : ip_H) : ip_K := match st with
  | .int y :: .int x :: r => if ip_cat r ≤ 8 then some (.int (if y < x then y else x) :: r, h) else none
  | _ => none
def ip_spec (k : Nat) (st : List Value) (h : ip_H) : ip_K := if k = 0 then ip_s0 st h else if k = 1 then ip_s1 st h else if k = 2 then ip_s2 st h else if k = 3 then ip_s3 st h else if k = 4 then ip_s4 st h else none
def ip_spi (m idx : Nat) (ks : List Nat) (st : List Value) (h : ip_H) : ip_K := match ip_spc (ip_own m) idx with
  | some k => if k ∈ ks then ip_spec k st h else none
  | none => none
def ip_heap (m : Nat) (i : Instr) (len : Nat) (st : List Value) (h : ip_H) : ip_K := match i with
  | .getfield idx => if len = 3 then ip_getf (ip_own m) idx st h else none
  | .putfield idx => if len = 3 then ip_putf m (ip_own m) idx st h else none
  | .iaload => if len = 1 then ip_iald st h else none
  | .baload => if len = 1 then ip_zald st h else none
  | .laload => if len = 1 then ip_lald st h else none
  | .aaload => if len = 1 then ip_aald st h else none
  | .iastore => if len = 1 then ip_iast st h else none
  | .bastore => if len = 1 then ip_zast st h else none
  | .lastore => if len = 1 then ip_last st h else none
  | .aastore => if len = 1 then ip_aast st h else none
  | .arraylength => if len = 1 then ip_alen st h else none
  | .new idx => if len = 3 then ip_new (ip_own m) idx st h else none
  | .newarray t => if len = 2 then ip_newa t st h else none
  | .anewarray idx => if len = 3 then ip_anew (ip_own m) idx st h else none
  | .getstatic idx => if len = 3 ∧ ip_own m = 5 ∧ idx = 24 then some (.ref 1 :: st, h) else none
  | .ldc idx => if len = 2 then ip_ldc (ip_own m) idx st h else none
  | .ldc_w idx => if len = 3 then ip_ldc (ip_own m) idx st h else none
  | .ldc2_w idx => if len = 3 then (match ip_kjn (ip_own m) idx with | some v => some (.long v :: st, h) | none => none) else none
  | .invokespecial idx => if len = 3 then ip_spi m idx [0] st h else none
  | .invokevirtual idx => if len = 3 then ip_spi m idx [1, 2] st h else none
  | .invokestatic idx => if len = 3 then ip_spi m idx [3, 4] st h else none
  | _ => none
/-- returns -/
def ip_end (m : Nat) (i : Instr) (len : Nat) (st : List Value) : Option (Option Value) := match i, st with
  | .ireturn, [.int v] => if len = 1 then (match ip_ret m with | some ty => if ty.isReference = false ∧ narrow ty (.int v) = .int v ∧ ty ≠ .long then some (some (.int v)) else none | none => none) else none
  | .lreturn, [.long v] => if len = 1 ∧ ip_ret m = some .long then some (some (.long v)) else none
  | .areturn, [.ref a] => if len = 1 then (match ip_ret m with | some (.object _) => some (some (.ref a)) | some (.array _) => some (some (.ref a)) | _ => none) else none
  | .return_, [] => if len = 1 ∧ ip_ret m = none then some none else none
  | _, _ => none
/-- 'throw new E("text")', at its new -/
def ip_thr (m pc : Nat) (i : Instr) (len : Nat) (st : List Value) : Option String := match i, st with
  | .new idx, [] => if len = 3 ∧ ip_hnd m = [] then (match ip_exn (ip_own m) idx with
    | some E => match decode (ip_code m) (pc + 3), decode (ip_code m) (pc + 4) with
      | .ok (.dup, 1), .ok (.ldc is, 2) => match ip_str (ip_own m) is, decode (ip_code m) (pc + 6), decode (ip_code m) (pc + 9) with
        | some _, .ok (.invokespecial ic, 3), .ok (.athrow, 1) => if ip_xin (ip_own m) ic E = true then some E else none
        | _, _, _ => none
      | .ok (.dup, 1), .ok (.ldc_w is, 3) => match ip_str (ip_own m) is, decode (ip_code m) (pc + 7), decode (ip_code m) (pc + 10) with
        | some _, .ok (.invokespecial ic, 3), .ok (.athrow, 1) => if ip_xin (ip_own m) ic E = true then some E else none
        | _, _, _ => none
      | _, _ => none
    | none => none) else none
  | _, _ => none
def ip_args (as : List Value) : List (Option Value) := as.flatMap (fun v => if v.category = 2 then [some v, none] else [some v])
def ip_entry (m : Nat) (as : List Value) : List (Option Value) := ip_args as ++ List.replicate (ip_mL m - (ip_args as).length) none
/-- a call: the method, its arguments (the receiver first), what is left -/
def ip_inv (m : Nat) (i : Instr) (len : Nat) (st : List Value) (h : ip_H) : Option (Nat × List Value × List Value) := match i with
  | .invokevirtual idx => if len = 3 then (match ip_mth (ip_own m) idx with
    | some (k, m', n) => if k = 0 ∧ n < st.length ∧ ip_cat (st.drop (n + 1)) ≤ 8 ∧ (ip_args (st.take (n + 1)).reverse).length ≤ ip_mL m' then (match st.getD n .null with
      | .ref b => (match h.1[b]? with
        | some (t, _) => if ip_cn.getD t "" = (ip_y m').cls ∧ t < 9 ∧ 2 ≤ b then some (m', (st.take (n + 1)).reverse, st.drop (n + 1)) else none
        | none => none)
      | _ => none) else none
    | none => none) else none
  | .invokestatic idx => if len = 3 then (match ip_mth (ip_own m) idx with
    | some (k, m', n) => if (k = 1 ∨ k = 4 ∨ k = 10) ∧ n ≤ st.length ∧ ip_cat (st.drop n) ≤ 8 ∧ (ip_args (st.take n).reverse).length ≤ ip_mL m' then some (m', (st.take n).reverse, st.drop n) else none
    | none => none) else none
  | .invokespecial idx => if len = 3 then (match ip_mth (ip_own m) idx with
    | some (k, m', n) => if (k = 2 ∨ k = 3) ∧ n < st.length ∧ ip_cat (st.drop (n + 1)) ≤ 8 ∧ (ip_args (st.take (n + 1)).reverse).length ≤ ip_mL m' then (match st.getD n .null with
      | .ref _ => some (m', (st.take (n + 1)).reverse, st.drop (n + 1))
      | _ => none) else none
    | none => none) else none
  | _ => none
/-- a handler that puts the exception away and answers a number: which number -/
def ip_hv (m pc : Nat) : Option Int32 := match decode (ip_code m) pc with
  | .ok (.astore_n k, 1) => if k.val < ip_mL m then (match decode (ip_code m) (pc + 1), decode (ip_code m) (pc + 2) with
    | .ok (.iconst n, 1), .ok (.ireturn, 1) => some (Int32.ofInt n)
    | _, _ => none) else none
  | .ok (.astore k, 2) => if k < ip_mL m then (match decode (ip_code m) (pc + 2), decode (ip_code m) (pc + 3) with
    | .ok (.iconst n, 1), .ok (.ireturn, 1) => some (Int32.ofInt n)
    | _, _ => none) else none
  | _ => none
def ip_find (own pc : Nat) (E : String) : List (Nat × Nat × Nat × Nat) → Option Nat
  | [] => none
  | (a, b, t, c) :: r => if a ≤ pc ∧ pc < b then (match ip_ctn own c with
    | some nm => if nm = E then some t else ip_find own pc E r
    | none => none) else ip_find own pc E r
/-- the exceptions that are thrown -/
def ip_xn : List String := ["java/lang/IllegalArgumentException", "java/lang/IndexOutOfBoundsException", "java/util/NoSuchElementException", "java/lang/IllegalStateException"]
/-- where a callee threw E: caught (the answer), or on to the caller -/
def ip_got (m pc : Nat) (E : String) : Option ip_O := match ip_hnd m with
  | [] => some (.inr E)
  | hh => if ip_ret m = some .int ∧ E ∈ ip_xn then (match ip_find (ip_own m) pc E hh with
    | some t => (ip_hv m t).map (fun v => .inl (some (.int v)))
    | none => none) else none
/-- THE MACHINE: fuel, depth, method, program counter, locals, stack, heap -/
def ip_run : Nat → Nat → Nat → Nat → List (Option Value) → List Value → ip_H → Option (ip_O × ip_H)
  | 0, _, _, _, _, _, _ => none
  | n + 1, d, m, pc, ls, st, h => match decode (ip_code m) pc with
    | .error _ => none
    | .ok (i, len) => match ip_pure pc i len ls st with
      | some (pc', ls', st') => ip_run n d m pc' ls' st' h
      | none => match ip_heap m i len st h with
        | some (st', h') => ip_run n d m (pc + len) ls st' h'
        | none => match ip_end m i len st with
          | some v => some (.inl v, h)
          | none => match ip_thr m pc i len st with
            | some E => some (.inr E, h.1, h.2.1, h.2.2.1, h.2.2.2.1, h.2.2.2.2.1 + 1, h.2.2.2.2.2.1 + 6, true)
            | none => match d with
              | 0 => none
              | d + 1 => match ip_inv m i len st h with
                | none => none
                | some (m', as, rest) => match ip_run n d m' 0 (ip_entry m' as) [] h with
                  | none => none
                  | some (.inl none, h') => ip_run n (d + 1) m (pc + 3) ls rest h'
                  | some (.inl (some v), h') => ip_run n (d + 1) m (pc + 3) ls (v :: rest) h'
                  | some (.inr E, h') => match ip_got m pc E with
                    | some o => some (o, h')
                    | none => none
