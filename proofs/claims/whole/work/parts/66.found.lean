/-! what the tables give: the classes and array classes that the worlds speak of -/
theorem z_tb {s : State} {A : Array Value} (hts : ∀ w ∈ lw_tbl, w.before A s = true) {w : Cond} (i : Nat) (h : tables_1[i]? = some w) : w.before A s = true := hts w (List.mem_append_right _ (List.mem_of_getElem? h))
theorem z_nests {s : State} {A : Array Value} (hts : ∀ w ∈ lw_tbl, w.before A s = true) : zc_N s := by
  refine ⟨va_Nw.of rfl (z_tb hts 17 (by decide +kernel)), va_Nw.of rfl (z_tb hts 23 (by decide +kernel)), va_Nw.of rfl (z_tb hts 237 (by decide +kernel)), va_Nw.of rfl (z_tb hts 254 (by decide +kernel)), va_Nw.of rfl (z_tb hts 260 (by decide +kernel)), va_Nw.of rfl (z_tb hts 262 (by decide +kernel)), va_Nw.of rfl (z_tb hts 301 (by decide +kernel)), va_Nw.of rfl (z_tb hts 317 (by decide +kernel)), va_AO.of (z_tb hts 120 (by decide +kernel))⟩
theorem z_arrP {s : State} {A : Array Value} {t : FieldType} (h : (Cond.arrayClass t).before A s = true) : ∃ c : ClassId, ArrOfT s c t ∧ s.vm.findClass ("[" ++ t.toString) = some c := by
  obtain ⟨c, k, comp, h1, h2, h3⟩ := Cond.arrayClass_spec h
  exact ⟨c, fun n z => ⟨fun k h => (by cases h), k, h2, comp, h3⟩, h1⟩
theorem z_arrO {s : State} {A : Array Value} {C : String} (h : (Cond.arrayOver (.object C)).before A s = true) : ∃ c : ClassId, ArrOfT s c (.object C) ∧ va_RA s c (.object C) := by
  obtain ⟨comp, c, k, h1, -, h3, h4, h5⟩ := Cond.arrayOver_spec h
  exact ⟨c, fun n z => ⟨fun k h => (by cases h), k, h3, comp, h4⟩, k, comp, h3, h4, h1, h5⟩
theorem z_found {s : State} {A : Array Value} (hts : ∀ w ∈ lw_tbl, w.before A s = true) : ∃ G : zc_G, zc_K G s := by
  obtain ⟨c0, i0, k0⟩ := u_known (C := RX0) (T := TX0) (N := 5) (n := 5) hts inX0 (z_tb hts 22 (by decide +kernel))
  obtain ⟨c1, i1, k1⟩ := u_known (C := RX1) (T := TX1) (N := 18) (n := 18) hts inX1 (z_tb hts 16 (by decide +kernel))
  obtain ⟨c2, i2, k2⟩ := u_known (C := RX2) (T := TX2) (N := 10) (n := 10) hts inX2 (z_tb hts 8 (by decide +kernel))
  obtain ⟨c3, i3, k3⟩ := u_known (C := RX3) (T := TX3) (N := 8) (n := 8) hts inX3 (z_tb hts 492 (by decide +kernel))
  obtain ⟨a0, p0, q0⟩ := z_arrP (z_tb hts (w := .arrayClass .int) 48 (by decide +kernel))
  obtain ⟨a1, p1, q1⟩ := z_arrP (z_tb hts (w := .arrayClass .long) 527 (by decide +kernel))
  obtain ⟨a2, p2, q2⟩ := z_arrP (z_tb hts (w := .arrayClass .boolean) 152 (by decide +kernel))
  obtain ⟨a3, p3, q3⟩ := z_arrO (z_tb hts (w := .arrayOver (.object RX1)) 120 (by decide +kernel))
  refine ⟨((fun k => match k with | 0 => c0 | 1 => c1 | 2 => c2 | _ => c3, fun k => match k with | 0 => i0 | 1 => i1 | 2 => i2 | _ => i3), fun k => match k with | 0 => a0 | 1 => a1 | 2 => a2 | _ => a3), ⟨fun k q hq => ?_, fun k q hq => ?_⟩, z_nests hts⟩
  · match k, hq with
    | 0, hq => cases hq; exact k0
    | 1, hq => cases hq; exact k1
    | 2, hq => cases hq; exact k2
    | 3, hq => cases hq; exact k3
    | k + 4, hq => simp [vwCl] at hq
  · match k, hq with
    | 0, hq => cases hq; exact ⟨p0, q0⟩
    | 1, hq => cases hq; exact ⟨p1, q1⟩
    | 2, hq => cases hq; exact ⟨p2, q2⟩
    | 3, hq => cases hq; exact ⟨p3, q3⟩
    | k + 4, hq => simp at hq
