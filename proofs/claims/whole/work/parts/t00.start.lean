/-! the law, for every script: the walk of the small machine, carried over to the true one -/
theorem whole_start {p : Program} {e : Env} {s : State} {m : MethodId} {below : List Frame} {meth : Method} {c : Code} (l : Launch) {b L : Nat} {xs : Nat → Int32} (hL : L ≤ 2560) (C0 : lw_At p s m meth c b L xs) : W p l e room_1 s m #[Value.ref b] below meth c s.heap [] 0 0 (lw_Z below #[Value.ref b] s) (entryFrame m ([Value.ref b] : List Value).toArray 4) := by
  obtain ⟨H1, hE, hc1, hc2⟩ := lw_all 0 L xs hL
  exact mm_law_start l (mm_wd_ok l) (dd := 31) (by decide) (by simpa using hE) hc1 hc2 C0
