/-! The words that all methods need, out of the tables. -/
def xi_lw (own : String) (q : Nat × Nat × Nat × Nat) : List Cond := match q with
  | (n, 0, ci, k) => match xi_cl[ci]? with
    | some r => [.fieldLink own n (r.2.1 k).1 (r.2.1 k).2.1 (r.2.1 k).2.2.1]
    | none => []
  | (n, 2, ci, _) => match xi_cl[ci]? with
    | some r => [.classLink own n r.1, .instantiable r.1 r.2.2, .initialized r.1]
    | none => []
  | (n, 3, j, 0) => match xi_ml[j]? with
    | some Mj => [.methodLink own n Mj.1]
    | none => []
  | (n, 4, _, _) => [.methodLink own n Lib.objectInit]
  | _ => []
def xi_kw (M : xi_M) : List Cond := match M.2.2.2.2.1 with
  | 0 => [.code M.1 M.2.1 M.2.2.1 M.2.2.2.1, .initialized M.1.cls, .instanceMethod M.1, .selects M.1.cls M.1 M.1]
  | 1 => [.code M.1 M.2.1 M.2.2.1 M.2.2.2.1, .initialized M.1.cls, .static M.1]
  | 2 => [.code M.1 M.2.1 M.2.2.1 M.2.2.2.1, .initialized M.1.cls, .instanceMethod M.1]
  | _ => []
def xi_W0 : List Cond := [.arrayClass .int, .arrayClass .boolean, .arrayClass .long, .instanceMethod Lib.objectInit, .code Lib.objectInit ⟨#[0xb1]⟩ 1 none] ++ (xi_cl.flatMap (fun r => u_ws r.1 r.2.1 r.2.2) ++ (xi_ml.flatMap xi_kw ++ (xi_ll.flatMap (fun r => r.2.flatMap (xi_lw r.1)) ++ xi_wy)))
theorem xi_W0_all : xi_W0.all goodWord = true := by decide +kernel
theorem xi_okW (w : Cond) (h : w ∈ xi_W0) : (w.onTables && w.keeps) = true ∨ ∃ ty, w = .arrayClass ty := good_of_word (List.all_eq_true.mp xi_W0_all w h)
theorem xi_W0_i : Cond.arrayClass .int ∈ xi_W0 := List.mem_append_left _ (List.mem_of_getElem? (i := 0) rfl)
theorem xi_W0_z : Cond.arrayClass .boolean ∈ xi_W0 := List.mem_append_left _ (List.mem_of_getElem? (i := 1) rfl)
theorem xi_W0_l : Cond.arrayClass .long ∈ xi_W0 := List.mem_append_left _ (List.mem_of_getElem? (i := 2) rfl)
theorem xi_W0_oi : Cond.instanceMethod Lib.objectInit ∈ xi_W0 := List.mem_append_left _ (List.mem_of_getElem? (i := 3) rfl)
theorem xi_W0_oc : Cond.code Lib.objectInit ⟨#[0xb1]⟩ 1 none ∈ xi_W0 := List.mem_append_left _ (List.mem_of_getElem? (i := 4) rfl)
theorem xi_W0_cl {ci : Nat} {r : vw_C} (h : xi_cl[ci]? = some r) : ∀ w ∈ u_ws r.1 r.2.1 r.2.2, w ∈ xi_W0 := fun _ hw =>
  List.mem_append_right _ (List.mem_append_left _ (List.mem_flatMap.mpr ⟨r, List.mem_of_getElem? h, hw⟩))
theorem xi_W0_m {n : Nat} {M : xi_M} (h : xi_ml[n]? = some M) : ∀ w ∈ xi_kw M, w ∈ xi_W0 := fun _ hw =>
  List.mem_append_right _ (List.mem_append_right _ (List.mem_append_left _ (List.mem_flatMap.mpr ⟨M, List.mem_of_getElem? h, hw⟩)))
theorem xi_lk_mem {n x : Nat} {M : xi_M} {q : Nat × Nat × Nat} (h : xi_ml[n]? = some M) (hq : xi_lk M x = some q) : ∃ r ∈ xi_ll, r.1 = M.1.cls ∧ (x, q) ∈ r.2 := by
  obtain ⟨r, hr, he⟩ := (xi_okM M (List.mem_of_getElem? h)).2.2.2.2.2.2.2
  unfold xi_lk at hq
  rw [hr] at hq
  dsimp only at hq
  refine ⟨r, List.mem_of_getElem? hr, he, ?_⟩
  cases hf : r.2.find? (fun q => q.1 == x) with
  | none => rw [hf] at hq; cases hq
  | some z =>
    rw [hf] at hq
    cases hq
    have h1 := List.find?_some hf
    have h2 : z.1 = x := by simpa using h1
    rw [← h2]
    exact List.mem_of_find?_eq_some hf
theorem xi_W0_lk {n x : Nat} {M : xi_M} {q : Nat × Nat × Nat} (h : xi_ml[n]? = some M) (hq : xi_lk M x = some q) : ∀ w ∈ xi_lw M.1.cls (x, q), w ∈ xi_W0 := by
  intro w hw
  obtain ⟨r, hr, he, hm⟩ := xi_lk_mem h hq
  refine List.mem_append_right _ (List.mem_append_right _ (List.mem_append_right _ (List.mem_append_left _ (List.mem_flatMap.mpr ⟨r, hr, List.mem_flatMap.mpr ⟨(x, q), hm, ?_⟩⟩))))
  rw [he]
  exact hw
theorem xi_fd_spec {n x ci k : Nat} {M : xi_M} (h : xi_ml[n]? = some M) (hq : xi_fd M x = some (ci, k)) : ∃ r : vw_C, xi_cl[ci]? = some r ∧ k < r.2.2 ∧ Cond.fieldLink M.1.cls x (r.2.1 k).1 (r.2.1 k).2.1 (r.2.1 k).2.2.1 ∈ xi_W0 := by
  unfold xi_fd at hq
  split at hq
  · next c1 k1 hl =>
    split at hq
    · next r hr =>
      split at hq
      · next hk =>
        cases hq
        refine ⟨r, hr, hk, xi_W0_lk h hl _ ?_⟩
        simp only [xi_lw, hr, List.mem_singleton]
      · cases hq
    · cases hq
  · cases hq
theorem xi_nw_spec {n x ci : Nat} {M : xi_M} (h : xi_ml[n]? = some M) (hq : xi_nw M x = some ci) : ∃ r : vw_C, xi_cl[ci]? = some r ∧ Cond.classLink M.1.cls x r.1 ∈ xi_W0 ∧ Cond.instantiable r.1 r.2.2 ∈ xi_W0 ∧ Cond.initialized r.1 ∈ xi_W0 := by
  unfold xi_nw at hq
  split at hq
  · next c1 k1 hl =>
    split at hq
    · next r hr =>
      cases hq
      refine ⟨r, hr, xi_W0_lk h hl _ ?_, xi_W0_lk h hl _ ?_, xi_W0_lk h hl _ ?_⟩ <;> simp [xi_lw, hr]
    · cases hq
  · cases hq
theorem xi_ob_spec {n x : Nat} {M : xi_M} (h : xi_ml[n]? = some M) (hq : xi_ob M x = true) : Cond.methodLink M.1.cls x Lib.objectInit ∈ xi_W0 := by
  unfold xi_ob at hq
  split at hq
  · next hl =>
    refine xi_W0_lk h hl _ ?_
    simp [xi_lw]
  · cases hq
-- nest mates' words
def xi_nml (own : String) (q : Nat × Nat × Nat × Nat) : List (String × Nat × MethodName × String) := match q with
  | (n, 3, j, z + 1) => match xi_ml[j]? with
    | some Mj => [(own, n, Mj.1, xi_host (z + 1))]
    | none => []
  | _ => []
def xi_nm : List (String × Nat × MethodName × String) := xi_ll.flatMap (fun r => r.2.flatMap (xi_nml r.1))
def xi_nfl (own : String) (q : Nat × Nat × Nat × Nat) : List (String × Nat × String × String × String × String) := match q with
  | (n, 1, z, _) => [(own, n, xi_ZC, xi_Zn, "[I", xi_host z)]
  | _ => []
def xi_nf : List (String × Nat × String × String × String × String) := xi_ll.flatMap (fun r => r.2.flatMap (xi_nfl r.1))
theorem xi_isZ_spec {n x : Nat} {M : xi_M} (h : xi_ml[n]? = some M) (hq : xi_isZ M x = true) : ∃ host, (M.1.cls, x, xi_ZC, xi_Zn, "[I", host) ∈ xi_nf := by
  unfold xi_isZ at hq
  split at hq
  · next z y hl =>
    obtain ⟨r, hr, he, hm⟩ := xi_lk_mem h hl
    exact ⟨xi_host z, List.mem_flatMap.mpr ⟨r, hr, List.mem_flatMap.mpr ⟨_, hm, by simp [xi_nfl, he]⟩⟩⟩
  · cases hq
