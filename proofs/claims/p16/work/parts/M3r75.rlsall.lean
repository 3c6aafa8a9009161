theorem LS_all (l : Launch) (G : pT) : ∀ z9 : Nat, PlookStatement l G z9 := by
  intro z9
  induction z9 with
  | zero => exact fun h0 a F B n9 fa sc il k9 rs nd T nm wr lz dc fd md pr bk gh dn wt wf ab ac nc ty mn vn vt ev hst hnm hn9 hz hfa hsc hk9 hnc hmn hil hrs hrs5 hmc hvt hve hkc => absurd hz (by omega)
  | succ z9 ih =>
    have ihS : PlookStatement l G (z9 + 1 - 1) := ih
    exact fun h0 a F B n9 fa sc il k9 rs nd T nm wr lz dc fd md pr bk gh dn wt wf ab ac nc ty mn vn vt ev hst hnm hn9 hz hfa hsc hk9 hnc hmn hil hrs hrs5 hmc hvt hve hkc => L_lookStatement l G h0 a F B n9 (z9 + 1) fa sc il k9 rs nd T nm wr lz dc fd md pr bk gh dn wt wf ab ac nc ty mn vn vt ev hst hnm hn9 hz hfa hsc hk9 hnc hmn hil hrs hrs5 hmc hvt hve hkc ihS
