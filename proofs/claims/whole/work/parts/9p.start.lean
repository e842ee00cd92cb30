/-! what the law's body needs at its start -/
theorem zs_cl {args : Array Value} {s : State} (hts : ∀ w ∈ lw_tbl, w.before args s = true) : ∀ c : Nat, ∃ x : ClassId × (Nat → Nat), ∀ q : vw_C, vwCl[c]? = some q → u_Kn s q.1 q.2.1 q.2.2 x.1 x.2 := by
  have k0 := u_known (C := RX0) (T := TX0) (N := 4) hts (fun w h => (lwt_wsX00 w h).1) (hts (Cond.instantiable RX0 4) lw_m1.1)
  have k1 := u_known (C := RX2) (T := TX2) (N := 7) hts (fun w h => (lwt_wsX20 w h).1) (hts (Cond.instantiable RX2 7) lw_m9.1)
  have k2 := u_known (C := RX3) (T := TX3) (N := 6) hts (fun w h => (lwt_wsX30 w h).1) (hts (Cond.instantiable RX3 6) lw_m20.1)
  have k3 := u_known (C := RX4) (T := TX4) (N := 11) hts (fun w h => (lwt_wsX40 w h).1) (hts (Cond.instantiable RX4 11) lw_m5.1)
  have k4 := u_known (C := RX5) (T := TX5) (N := 15) hts (fun w h => (lwt_wsX50 w h).1) (hts (Cond.instantiable RX5 15) (by decide +kernel))
  have k5 := u_known (C := RX6) (T := TX6) (N := 22) hts (fun w h => (lwt_wsX60 w h).1) (hts (Cond.instantiable RX6 22) (by decide +kernel))
  obtain ⟨a0, b0, h0⟩ := k0
  obtain ⟨a1, b1, h1⟩ := k1
  obtain ⟨a2, b2, h2⟩ := k2
  obtain ⟨a3, b3, h3⟩ := k3
  obtain ⟨a4, b4, h4⟩ := k4
  obtain ⟨a5, b5, h5⟩ := k5
  intro c
  match c with
  | 0 => exact ⟨(a0, b0), fun q h => by cases h; exact h0⟩
  | 1 => exact ⟨(a1, b1), fun q h => by cases h; exact h1⟩
  | 2 => exact ⟨(a2, b2), fun q h => by cases h; exact h2⟩
  | 3 => exact ⟨(a3, b3), fun q h => by cases h; exact h3⟩
  | 4 => exact ⟨(a4, b4), fun q h => by cases h; exact h4⟩
  | 5 => exact ⟨(a5, b5), fun q h => by cases h; exact h5⟩
  | c + 6 => exact ⟨(a0, b0), fun q h => by cases h⟩
theorem zs_K {args : Array Value} {s : State} (hts : ∀ w ∈ lw_tbl, w.before args s = true) : ∃ (G : va_G) (cI : ClassId), va_K G vwCl [(cI, .int)] s ∧ s.vm.findClass ("[" ++ (newarray.typeOf .int).toString) = some cI := by
  obtain ⟨f, hf⟩ := Classical.axiomOfChoice (zs_cl hts)
  obtain ⟨cI, kA, comp, h1, h2, h3⟩ := Cond.arrayClass_spec (type := newarray.typeOf .int) (hts (Cond.arrayClass (newarray.typeOf .int)) (by decide +kernel))
  refine ⟨(fun c => (f c).1, fun c => (f c).2), cI, ⟨fun c q hq => hf c q hq, fun k q hk => ?_⟩, h1⟩
  match k with
  | 0 =>
    cases hk
    exact ⟨fun n z => ⟨fun k h => (by cases h), kA, h2, comp, h3⟩, h1⟩
  | k + 1 => cases hk
theorem zs_iB {args : Array Value} {s : State} {cI : ClassId} (hts : ∀ w ∈ lw_tbl, w.before args s = true) (h : s.vm.findClass ("[" ++ (newarray.typeOf .int).toString) = some cI) : zi_B cI s :=
  ⟨h, fun w hw => va_Nw.of (zi_nw_on w hw) (hts w ((show ∀ w ∈ zi_nw, w ∈ lw_tbl by decide +kernel) w hw))⟩
theorem zs_lB {args : Array Value} {s : State} (hts : ∀ w ∈ lw_tbl, w.before args s = true) (hgv : (Jvm.Cond.and given_1 narrow_1).before args s = true) : zl_B s :=
  ⟨va_Nc.of (flat_of_before _ hgv _ (by decide +kernel)), va_Nc.of (flat_of_before _ hgv _ (by decide +kernel))⟩
theorem zs_xB {args : Array Value} {s : State} (hts : ∀ w ∈ lw_tbl, w.before args s = true) (hgv : (Jvm.Cond.and given_1 narrow_1).before args s = true) : zx_B (fun q => s.heap.size ≤ q) s := by
  have hA : ∀ a : Nat, a < s.heap.size → ¬ (fun q => s.heap.size ≤ q) a := fun a h q => absurd h (Nat.not_lt.mpr q)
  refine ⟨vx_Zqof (hts _ (by decide +kernel)) (hts _ (by decide +kernel)) (flat_of_before _ hgv _ (by decide +kernel)) hA, vx_Zqof (hts _ (by decide +kernel)) (hts _ (by decide +kernel)) (flat_of_before _ hgv _ (by decide +kernel)) hA, fun q hq => ?_, fun w hw => va_Nw.of (zx_bw_on w hw) (hts w ((show ∀ w ∈ zx_bw, w ∈ lw_tbl by decide +kernel) w hw))⟩
  have hx : (Cond.exactly (.string RX5 q.1) "java/lang/String").before args s = true := by
    have hq2 := hq
    simp only [zx_sx, List.mem_cons, List.not_mem_nil, or_false] at hq2
    rcases hq2 with rfl | rfl | rfl | rfl | rfl | rfl | rfl | rfl | rfl | rfl | rfl | rfl | rfl | rfl | rfl <;> exact flat_of_before _ hgv _ (by decide +kernel)
  obtain ⟨a, c, cA, kA, q1, q2⟩ := Cond.exactly_spec (args := args) (first := s) (o := none) (s := s) (idx := []) (t := .string RX5 q.1) (cls := "java/lang/String") hx
  exact ⟨a, vk_R.of (hts _ ((show ∀ q ∈ zx_sx, Cond.stringRef RX5 q.1 q.2 ∈ lw_tbl by decide +kernel) q hq)) q1⟩
