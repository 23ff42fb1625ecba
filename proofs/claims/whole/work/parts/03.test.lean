def code_X0_get : List (Nat × Row) := [(0, (.iload_n 1, (1, []))), (1, (.ifCond .lt 25, (4, [26]))), (4, (.iload_n 1, (5, []))), (5, (.aload_n 0, (6, []))), (6, (.getfield 21, (9, []))), (9, (.if_icmp .ge 17, (12, [26]))), (12, (.iload_n 2, (13, []))), (13, (.ifCond .lt 13, (16, [26]))), (16, (.iload_n 2, (17, []))), (17, (.bipush 8, (19, []))), (19, (.if_icmp .ge 7, (22, [26]))), (22, (.iconst 1, (23, []))), (23, (.goto 4, (26, [27]))), (26, (.iconst 0, (27, []))), (27, (.istore_n 3, (28, []))), (28, (.iload_n 3, (29, []))), (29, (.ifCond .eq 17, (32, [46]))), (32, (.aload_n 0, (33, []))), (33, (.getfield 9, (36, []))), (36, (.iload_n 1, (37, []))), (37, (.bipush 8, (39, []))), (39, (.imul, (40, []))), (40, (.iload_n 2, (41, []))), (41, (.iadd, (42, []))), (42, (.iaload, (43, []))), (43, (.goto 4, (46, [47]))), (46, (.iconst (-1), (47, []))), (47, (.ireturn, (48, [])))]
set_option maxRecDepth 100000 in
theorem test_get (S : Nat → CS) (Rt : Option AV → Hp → Nat → Nat → Prop) (X : Nat → Hp → Nat → Nat → Prop) (K : AK) (h : Hp) (n w : Int)
    (h1 : 0 ≤ n ∧ n < hI h 1 3 ∧ 0 ≤ w ∧ w < 8 → Rt (some (.inl (hI h 2 (n * 8 + w).toNat))) h 0 0) (h2 : ¬ (0 ≤ n ∧ n < hI h 1 3 ∧ 0 ≤ w ∧ w < 8) → Rt (some (.inl (-1))) h 0 0) (hc : hI h 1 3 ≤ 40) :
    aw true 0 1 0 0 S [] Rt X 0 (fun _ => 0) code_X0_get [] K 40 0 [(0, .inr (.inr (some 1))), (1, .inl n), (2, .inl w)] [] h 0 0 := by
  apply And.intro
  · intro a1
    trace_state
    sorry
  · intro a1
    trace_state
    sorry
