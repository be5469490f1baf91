section
variable {z s m s' m' : zS} {G G' : Int → Nat → Int → Int} {f N i o v tk n T H t1 J : Int} {X : zX} {Q : Int → zS → Prop}
-- the reference goes on where the other side has stopped
theorem fun_ill (hX : okX X) (S : Src z) (hf : 0 ≤ f ∧ f < z 3 6) (hb : 0 ≤ z 9 f) (hsz : sm z (f + 1).toNat ≤ 400) (hv : z 13 (z 9 f) ≤ 16) (q2 : ∀ k, 46 ≤ k → k ≤ 55 → m k = z k) (q3 : m 45 16 = sm z f.toNat) (hq : m 45 36 = 1) :
    ∃ m', (∀ a X Q, Q 0 (mx' a m') → w_113 X f (mx' a m) Q) ∧ (∀ k, 46 ≤ k → k ≤ 55 → m' k = z k) ∧ m' 45 16 = sm z (f + 1).toNat ∧ m' 45 36 = 1 ∧ Fm m m' := by
  have S' := S
  obtain ⟨S1, S2, S3, S4, S5, S6⟩ := S'
  obtain ⟨f48, f6, f49, f7, f51, f9, f13⟩ := S4 f hf.1 hf.2
  have hp := sm_pos S f.toNat (by omega)
  have es := sm_s (z := z) hf.1 hb
  have zpb := (S6 _ hb (by omega)).2.2.2.2.2.2.2.2.2.2.2.2.2.2.2.2.2.2.2
  have h16 : 0 ≤ m 45 16 := by omega
  obtain ⟨m4, ⟨b1, b2, b3, b4, b5, b6, b7, b8, b9⟩, gm⟩ := beg_m (z := z) (m := m) (f := f) (by omega) f7 (by rw [q2 49 (by omega) (by omega), f49]) (fun k p q => by rw [q2 50 (by omega) (by omega)]; exact (S5 f k hf.1 hf.2 p q).1) (by rw [q2 51 (by omega) (by omega), f51])
  have e16 : m4 45 16 = m 45 16 := b9 16 (by omega) (by omega) (by omega)
  have e36 : m4 45 36 = m 45 36 := b9 36 (by omega) (by omega) (by omega)
  have M4 : Com z m4 := ⟨fun k p q => by rw [b1 k (by omega)]; exact q2 k p q, fun k p q => by omega, fun k p q => by rw [b3 k p q]; exact lt_r S hf k p, by omega, by omega, by omega, by omega⟩
  have C4 : Cls z f (zu (zu z 22 10 0) 22 6 0) m4 (fun _ _ _ => 0) := ⟨fun k p q => by rw [zu_f (by omega), zu_f (by omega)], fun q => by omega, fun _ => ⟨by simp [zu], by rw [zu_s]; exact ⟨by omega, by omega⟩⟩⟩
  refine w_46_102_e (X := X) (f := f) (T := 0) (s := zu (zu z 22 10 0) 22 6 0) hX ?_
  refine (all_nodes S 150 (z 9 f) hb (by omega) f9.2).1 (f13 hb) _ m4 _ 0 0 0 X _ C4 M4 ⟨⟨by omega, b7, b8⟩, ⟨by omega, by omega⟩, by omega, by omega, by omega, ⟨by omega, by omega⟩, ⟨by omega, by omega⟩, fun q => by omega⟩ ?_
  intro s5 m5 G5 T5 gm5 M5 C5 F5 ⟨⟨c1, c2, c3, c4⟩, c5, c6, c7, c8⟩ t5
  obtain ⟨c51, c52, c53, c54, c55, c56, c57⟩ := id c5
  have y5 := M5.2.1 0 (by omega) (by omega)
  obtain ⟨m6, b6', gm6⟩ := end_m (f := f) (m := m5) (N := m5 45 16) (by omega) c1 rfl (by omega) (by omega) y5 (by rw [M5.1 48 (by omega) (by omega), f48]; exact f6) rfl M5.2.2.2.1
  obtain ⟨d1, d2, d3, d4, d5, d6, d7, d8, d9, d10, d11, d12⟩ := id b6'
  have r : m5 45 36 = 1 := by
    rcases M5.2.2.2.1 with r | r
    · have := c57 r; omega
    · exact r
  have i5 := C5.2.2 r
  have d8' : m6 45 36 = 1 := by rw [d8, r]; split <;> rfl
  refine end_i i5.1 i5.2 (by omega) ⟨m6, fun a X Q k => gm a X Q (gm5 a X Q (gm6 a X Q k)), fun k p q => by rw [d12 k (by omega), M5.1 k p q], by rw [d6, c2, es]; omega, d8', ?_⟩
  refine ⟨fun j r1 r2 r3 r4 r5 => ?_, fun k hk => ?_⟩
  · rw [d9 j r1 r3 r5, c55 j r1 r2 r3 r4 r5, b9 j r2 r3 r4]
  · rw [d12 k (by omega), c56 k (by omega), b1 k (by omega)]
end
