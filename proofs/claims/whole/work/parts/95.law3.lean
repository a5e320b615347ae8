/-! THE LAW: its cases -/
theorem cs_hcs {tc wc : Nat} {M N : Nat → Nat → Int32} {L K : Nat → Nat → Int64} (r : Rl tc wc M L N K) : ∀ t, t < 8 → N 95 t - N 94 t + 1 + N 96 t ≠ 0 := fun t ht => by
  obtain ⟨f, l, c, h1, h2, h3, h4, h5, h6, h7⟩ := cases_at r ht
  rw [h5]
  intro z
  have := (nI_eq (a := c) (b := 0) (by omega) (by omega)).mp z
  omega
theorem rota_r1 {tc wc : Nat} {M : Nat → Nat → Int32} {L : Nat → Nat → Int64} (r : Rl tc wc M L M L) {t i y : Int32} {M1 : Nat → Nat → Int32} {L1 : Nat → Nat → Int64} (h : rotaR M L wc t i y (M1, L1)) : Rl tc wc M L M1 L1 := by
  have k : (∀ a j, 86 ≤ a → M1 a j = M a j) ∧ L1 = L := by
    unfold rotaR at h
    split at h
    · split at h
      · obtain ⟨M2, h1, h2, -⟩ := h
        cases h1
        exact ⟨fun a j q => h2 a j (by omega) (by omega), rfl⟩
      · obtain ⟨h1, -⟩ := h
        cases h1
        exact ⟨fun a j q => rfM_o (by omega), rfl⟩
    · obtain ⟨h1, -⟩ := h
      cases h1
      exact ⟨fun a j q => rfM_o (by omega), rfl⟩
  obtain ⟨k1, rfl⟩ := k
  exact r.right k1 (fun _ _ _ => rfl)
theorem kl_show {M : Nat → Nat → Int32} {L : Nat → Nat → Int64} {s1 : Int32} {w : Int32} : (a_X8_show M L s1 w).2.2 = L := by
  unfold a_X8_show
  repeat' (first | with_reducible rfl | apply ite22)
theorem kl_says {M : Nat → Nat → Int32} {L : Nat → Nat → Int64} {s1 : Int32} {k : Int32} {wc : Nat} : (a_X8_says M L s1 k wc).2.2 = L := by
  unfold a_X8_says
  repeat' (first | with_reducible rfl | apply ite22)
theorem kl_thing {M : Nat → Nat → Int32} {L : Nat → Nat → Int64} {c1 : Int32} {f : Int32} {l1 : Int32} {n : Int32} {w : Int32} {st : Int32} {a : Int32} {tc : Nat} : (a_X8_thing M L c1 f l1 n w st a tc).2.2 = L := by
  unfold a_X8_thing
  repeat' (first | with_reducible rfl | apply ite22)
theorem kl_waiter {M : Nat → Nat → Int32} {L : Nat → Nat → Int64} {k : Int32} {a : Int32} {p1 : Int32} {q1 : Int32} {c1 : Int32} {wc : Nat} : (a_X8_waiter M L k a p1 q1 c1 wc).2.2 = L := by
  unfold a_X8_waiter
  repeat' (first | with_reducible rfl | apply ite22)
theorem kl_move {M : Nat → Nat → Int32} {L : Nat → Nat → Int64} {w : Int32} {c1 : Int32} {wc : Nat} : (a_X8_move M L w c1 wc).2.2 = L := by
  unfold a_X8_move
  repeat' (first | with_reducible rfl | apply ite22)
theorem kl_ask {M : Nat → Nat → Int32} {L : Nat → Nat → Int64} {v : Int32} : (a_X8_ask M L v).2.2 = L := by
  unfold a_X8_ask
  repeat' (first | with_reducible rfl | apply ite22)
theorem kl_thingOf {M : Nat → Nat → Int32} {L : Nat → Nat → Int64} {t : Int32} {what : Int32} {tc : Nat} : (a_X8_thingOf M L t what tc).2.2 = L := by
  unfold a_X8_thingOf
  repeat' (first | with_reducible rfl | apply ite22)
theorem kl_waiterOf {M : Nat → Nat → Int32} {L : Nat → Nat → Int64} {w : Int32} {what : Int32} {wc : Nat} : (a_X8_waiterOf M L w what wc).2.2 = L := by
  unfold a_X8_waiterOf
  repeat' (first | with_reducible rfl | apply ite22)
theorem kl_cost {M : Nat → Nat → Int32} {L : Nat → Nat → Int64} {w : Int32} {n : Int32} {wc : Nat} : (a_X8_cost M L w n wc).2.2 = L := by
  unfold a_X8_cost
  repeat' (first | with_reducible rfl | apply ite22)
theorem kl_guild {M : Nat → Nat → Int32} {L : Nat → Nat → Int64} {s1 : Int32} {tc : Nat} {wc : Nat} : (guildR M L s1 tc wc).2.2 = L := by
  unfold guildR
  repeat' (first | with_reducible rfl | apply ite22)
theorem kl_by {M : Nat → Nat → Int32} {L : Nat → Nat → Int64} {t : Int32} {q1 : Int32} {tc : Nat} : (a_X8_by M L t q1 tc).2.2 = L := by
  unfold a_X8_by
  repeat' (first | with_reducible rfl | apply ite22)
theorem kl_stop {M : Nat → Nat → Int32} {L : Nat → Nat → Int64} {t : Int32} {w : Int32} {what : Int32} {tc : Nat} {wc : Nat} : (a_X8_stop M L t w what tc wc).2.2 = L := by
  unfold a_X8_stop
  repeat' (first | with_reducible rfl | apply ite22)
theorem kl_best {M : Nat → Nat → Int32} {L : Nat → Nat → Int64} {t : Int32} {tc : Nat} {wc : Nat} : (a_X8_best M L t tc wc).2.2 = L := by
  unfold a_X8_best
  repeat' (first | with_reducible rfl | apply ite22)
theorem kl_lookouts {M : Nat → Nat → Int32} {L : Nat → Nat → Int64} {w : Int32} {tc : Nat} {wc : Nat} : (a_X8_lookouts M L w tc wc).2.2 = L := by
  unfold a_X8_lookouts
  repeat' (first | with_reducible rfl | apply ite22)
theorem kl_posts {M : Nat → Nat → Int32} {L : Nat → Nat → Int64} {what : Int32} {tc : Nat} {wc : Nat} : (a_X8_posts M L what tc wc).2.2 = L := by
  unfold a_X8_posts
  repeat' (first | with_reducible rfl | apply ite22)
theorem kl_seen {M : Nat → Nat → Int32} {L : Nat → Nat → Int64} {w : Int32} {what : Int32} {tc : Nat} {wc : Nat} : (a_X8_seen M L w what tc wc).2.2 = L := by
  unfold a_X8_seen
  repeat' (first | with_reducible rfl | apply ite22)
theorem kl_met {M : Nat → Nat → Int32} {L : Nat → Nat → Int64} {t : Int32} {what : Int32} {tc : Nat} : (a_X8_met M L t what tc).2.2 = L := by
  unfold a_X8_met
  repeat' (first | with_reducible rfl | apply ite22)
theorem kl_runners {M : Nat → Nat → Int32} {L : Nat → Nat → Int64} {k : Int32} {what : Int32} {tc : Nat} : (a_X8_runners M L k what tc).2.2 = L := by
  unfold a_X8_runners
  repeat' (first | with_reducible rfl | apply ite22)
theorem kl_left {M : Nat → Nat → Int32} {L : Nat → Nat → Int64} {s1 : Int32} {n : Int32} {tc : Nat} : (leftR M L s1 n tc).2.2 = L := by
  unfold leftR
  repeat' (first | with_reducible rfl | apply ite22)
theorem kl_await {M : Nat → Nat → Int32} {L : Nat → Nat → Int64} {q1 : Int32} {tc : Nat} : (a_X8_await M L q1 tc).2.2 = L := by
  unfold a_X8_await
  repeat' (first | with_reducible rfl | apply ite22)
theorem kl_judge {M : Nat → Nat → Int32} {L : Nat → Nat → Int64} {s1 : Int32} {n : Int32} {tc : Nat} : (a_X8_judge M L s1 n tc).2.2 = L := by
  unfold a_X8_judge
  repeat' (first | with_reducible rfl | apply ite22)
theorem kl_behind {M : Nat → Nat → Int32} {L : Nat → Nat → Int64} {s1 : Int32} {n : Int32} {what : Int32} {tc : Nat} : (a_X8_behind M L s1 n what tc).2.2 = L := by
  unfold a_X8_behind
  repeat' (first | with_reducible rfl | apply ite22)
theorem kl_done {M : Nat → Nat → Int32} {L : Nat → Nat → Int64} {s1 : Int32} {n : Int32} {tc : Nat} : (a_X8_done M L s1 n tc).2.2 = L := by
  unfold a_X8_done
  repeat' (first | with_reducible rfl | apply ite22)
theorem kl_days {M : Nat → Nat → Int32} {L : Nat → Nat → Int64} {n : Int32} {tc : Nat} {wc : Nat} : (a_X8_days M L n tc wc).2.2 = L := by
  unfold a_X8_days
  repeat' (first | with_reducible rfl | apply ite22)
theorem kl_seed {M : Nat → Nat → Int32} {L : Nat → Nat → Int64} {v : Int32} : (a_X8_seed M L v).2.2 = L := by
  unfold a_X8_seed
  repeat' (first | with_reducible rfl | apply ite22)
theorem kl_act {M : Nat → Nat → Int32} {L : Nat → Nat → Int64} {w : Int32} {mv : Int32} {x : Int32} {wc : Nat} : (a_X8_act M L w mv x wc).2.2 = L := by
  unfold a_X8_act
  repeat' (first | with_reducible rfl | apply ite22)
theorem kl_image {M : Nat → Nat → Int32} {L : Nat → Nat → Int64}  : (a_X8_image M L).2.2 = L := by
  unfold a_X8_image
  repeat' (first | with_reducible rfl | apply ite22)
theorem kl_restore {M : Nat → Nat → Int32} {L : Nat → Nat → Int64}  : (a_X8_restore M L).2.2 = L := by
  unfold a_X8_restore
  repeat' (first | with_reducible rfl | apply ite22)
