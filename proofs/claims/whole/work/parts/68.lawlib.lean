/-! the law's walk: what stands all along, what stands now -/
def z_Fix (p : Program) (s : State) (m : MethodId) (c : Code) (b L : Nat) (xs : Nat → Int32) (G : zc_G) (ba na : Nat → Nat) (pa : Nat → Nat → Nat) (ma : Nat → Nat) : Prop :=
  p.tables.exec = Jvm.exec ∧ c.code = cL_law ∧ c.maxLocals = 4 ∧ s.vm.findClass RL = some m.cls ∧ (∀ w ∈ wsL_law, w.before #[Value.ref b] s = true) ∧ (va_X b L xs s s.heap ∧ b < s.heap.size) ∧ zc_K G s ∧ va_D (fun q : Nat => s.heap.size ≤ q) (zc_bc G ba na pa zc_b0) ∧ va_D (fun q : Nat => s.heap.size ≤ q) (zc_mo G ma zc_m0) ∧ ∀ q ∈ (zc_mo G ma zc_m0).map Prod.fst, q ∉ (zc_bc G ba na pa zc_b0).map Prod.fst
def z_Now (s : State) (G : zc_G) (ba na : Nat → Nat) (pa : Nat → Nat → Nat) (ma : Nat → Nat) (v : zc_B) (u : zc_M) (H : Heap) (locs : List Loc) : Prop := va_P G.1 vwCl (zc_bc G ba na pa v) H ∧ va_P G.1 vwCl (zc_mo G ma u) H ∧ va_S (fun q : Nat => s.heap.size ≤ q) s.heap H locs
theorem zi_nI {n : Nat} (h : n < 2 ^ 31) : nI n = zi (n : Int) := Int32.toInt_inj.mp (by rw [nI_toInt h, zi_toInt (by omega) (by omega)])
section ZLB
variable {p : Program} {l : Launch} {e : Env} {R : Room} {s : State} {m : MethodId} {args : Array Value} {below : List Frame} {meth : Method} {c : Code} {b L : Nat} {xs : Nat → Int32} {G : zc_G} {ba na : Nat → Nat} {pa : Nat → Nat → Nat} {ma : Nat → Nat} {Q : State → Prop} {H : Heap} {locs : List Loc} {ls : Array Slot} {x3 : Int32} {v : zc_B} {u : zc_M} {cells slots pc : Nat} {rest st0 : List Value} {ar : Array Value}
/-- an int of the script -/
theorem z_arg (F : z_Fix p s m c b L xs G ba na pa ma) (Nw : z_Now s G ba na pa ma v u H locs) {a1 a2 : Nat} (hl : lv_has ls 4 [(0, .ref b), (1, .ref a1), (2, .ref a2), (3, .int x3)]) {n : Int} {w : Int32} (hw : Int32.ofInt n = w) (hin : vp_in (x3 + w) L) (d0 : decode cL_law pc = .ok (.aload_n 0, 1)) (d1 : decode cL_law (pc + 1) = .ok (.iload_n 3, 1)) (d2 : decode cL_law (pc + 2) = .ok (.iconst n, 1)) (d3 : decode cL_law (pc + 3) = .ok (.iadd, 1)) (d4 : decode cL_law (pc + 4) = .ok (.iaload, 1))
    (kk : W p l e R s m args below meth c H locs cells slots Q (F0 m (pc + 5) ls (.int (xs (x3 + w).toNatClampNeg) :: rest))) : W p l e R s m args below meth c H locs cells slots Q (F0 m pc ls rest) := by
  obtain ⟨hx, hb, -, -, -, ⟨hX, hbl⟩, -⟩ := F
  have hbA : ¬ (fun q : Nat => s.heap.size ≤ q) b := Nat.not_le.mpr hbl
  refine lv_aload_n hx hb d0 rfl (lv_at hl 0 rfl) ?_
  refine lv_iload_n hx hb d1 rfl (lv_at hl 3 rfl) ?_
  refine lv_iconst hx hb d2 hw ?_
  refine lv_iadd hx hb d3 ?_
  exact va_sld hx hb hX hbl hbA Nw.2.2 hin d4 kk
/-- a call on the clock: the reference's cells stay -/
theorem z_cb (F : z_Fix p s m c b L xs G ba na pa ma) (Nw : z_Now s G ba na pa ma v u H locs) {v1 : zc_B} {r0 : Int32}
    (hr : va_Run p l e R s m args below meth c H locs cells slots 0 0 (F0 m pc ls st0) rest (zc_Qi G r0 (zc_bc G ba na pa v1) (va_A (zc_bc G ba na pa v) H.size) ar) (va_A (zc_bc G ba na pa v) H.size))
    (kk : ∀ (H1 : Heap) (locs1 : List Loc), z_Now s G ba na pa ma v1 u H1 locs1 → W p l e R s m args below meth c H1 locs1 cells slots Q (F0 m (pc + 3) ls (.int r0 :: rest))) : W p l e R s m args below meth c H locs cells slots Q (F0 m pc ls st0) := by
  obtain ⟨-, -, -, -, -, -, -, hDb, hDm, hap⟩ := F
  obtain ⟨hPb, hPm, hS⟩ := Nw
  have hD : va_D (fun q : Nat => s.heap.size ≤ q) (zc_bc G ba na pa v) := zc_bcD hDb
  have hF := zc_freeB hD hS (fun _ h => h)
  refine va_calli hr hS (fun q _ h => hF q h) hF (fun r w t H1 locs1 ht hvm hw1 hB hz1 hk1 hS1 => ?_)
  have hw1 : r = r0 := hw1
  subst hw1
  have hB : va_P G.1 vwCl (zc_bc G ba na pa v1) t.heap := hB
  rw [ht] at hB
  refine kk H1 locs1 ⟨hB, zc_repl hPm hB hk1 (fun q hq => Or.inr ⟨hq, fun hq' => ?_⟩), hS1⟩
  rw [zc_bc_fst G ba na pa v zc_b0] at hq'
  have hq2 : q.1 ∈ (zc_mo G ma u).map Prod.fst := zc_fst hq
  exact hap q.1 hq2 hq'
/-- a call on the reference: the clock's cells stay -/
theorem z_cm (F : z_Fix p s m c b L xs G ba na pa ma) (Nw : z_Now s G ba na pa ma v u H locs) {u1 : zc_M} {r0 : Int32}
    (hr : va_Run p l e R s m args below meth c H locs cells slots 0 0 (F0 m pc ls st0) rest (zc_Qi G r0 (zc_mo G ma u1) (va_A (zc_mo G ma u) H.size) ar) (va_A (zc_mo G ma u) H.size))
    (kk : ∀ (H1 : Heap) (locs1 : List Loc), z_Now s G ba na pa ma v u1 H1 locs1 → W p l e R s m args below meth c H1 locs1 cells slots Q (F0 m (pc + 3) ls (.int r0 :: rest))) : W p l e R s m args below meth c H locs cells slots Q (F0 m pc ls st0) := by
  obtain ⟨-, -, -, -, -, -, -, hDb, hDm, hap⟩ := F
  obtain ⟨hPb, hPm, hS⟩ := Nw
  have hD : va_D (fun q : Nat => s.heap.size ≤ q) (zc_mo G ma u) := zc_Ds hDm rfl
  have hF : ∀ q, va_A (zc_mo G ma u) H.size q → (fun q : Nat => s.heap.size ≤ q) q := by
    rintro q (⟨k, e', hk⟩ | hq)
    · exact hD.2 k (q, e') hk
    · exact Nat.le_trans hS.1 hq
  refine va_calli hr hS (fun q _ h => hF q h) hF (fun r w t H1 locs1 ht hvm hw1 hB hz1 hk1 hS1 => ?_)
  have hw1 : r = r0 := hw1
  subst hw1
  have hB : va_P G.1 vwCl (zc_mo G ma u1) t.heap := hB
  rw [ht] at hB
  refine kk H1 locs1 ⟨zc_repl hPb hB hk1 (fun q hq => Or.inr ⟨hq, fun hq' => ?_⟩), hB, hS1⟩
  have hq2 : q.1 ∈ (zc_bc G ba na pa v).map Prod.fst := zc_fst hq
  rw [zc_bc_fst G ba na pa v zc_b0] at hq2
  exact hap q.1 hq' hq2
end ZLB
