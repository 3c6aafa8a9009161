theorem fr_all : ∀ i : Nat, i < 15 → Cond.stringRef (sOwn.getD i ("", 0, "")).1 (sOwn.getD i ("", 0, "")).2.1 (sOwn.getD i ("", 0, "")).2.2 ∈ lw_tbl := by decide +kernel
