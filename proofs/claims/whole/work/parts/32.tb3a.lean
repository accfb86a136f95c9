
theorem setF_Hs {σ : Sto} {o q k : Nat} {v : Value} {fs : List Value} {as : List (List Int32)} (h : Hs σ o q fs as) : setF σ o k v = put σ o q (fs.set k v) as := by
  have e : setF σ o k v = setF (put σ o q fs as) o k v := by rw [Hs_self h]
  rw [e, setF_put]
abbrev n_slope (N : Trl) (pg : Nat → Nat) (pm : Nat) : Trl := mkT (pm - 2) (pg (pm - 1) - 48) 0 0 (nI 0) (fun k => if k < pm - 2 then pg k - 48 else N.de k) N.ki N.sr N.le N.fi (fun k => if k < pm - 2 then none else N.fo k) N.to
abbrev n_tread (N : Trl) : Trl := mkT N.st N.me (if okT N.w N.st N.tr N.ki N.fi N.le N.de then N.tr + 1 else N.tr) N.w (if okT N.w N.st N.tr N.ki N.fi N.le N.de then miT N.ki N.fi N.tr N.de N.fo N.mi else N.mi) N.de N.ki N.sr (if okT N.w N.st N.tr N.ki N.fi N.le N.de then trS N.ki N.fi (N.de N.tr) N.le N.w else N.le) N.fi (if okT N.w N.st N.tr N.ki N.fi N.le N.de then up N.fo N.tr (some (N.fi 0)) else N.fo) N.to
abbrev n_change (N : Trl) : Trl := mkT N.st N.me N.tr N.w (if N.w = 0 then N.mi else N.mi + nI 1) N.de N.ki N.sr N.le (if N.w = 0 then N.fi else rot N.w N.fi) N.fo N.to
abbrev n_rest (N : Trl) : Trl := mkT N.st N.me N.tr N.w (if N.w = 0 then N.mi else N.mi + nI 5) N.de N.ki N.sr (if N.w = 0 then N.le else rsN N.w N.sr N.le) N.fi N.fo N.to
abbrev n_snow (N : Trl) (x : Int32) : Trl := mkT N.st N.me N.tr N.w N.mi (if inB x 0 9 then snN N.tr N.st x.toInt.toNat N.de else N.de) N.ki N.sr N.le N.fi N.fo N.to
abbrev n_sun (N : Trl) : Trl := mkT N.st N.me N.tr N.w N.mi (suN N.tr N.st N.me N.de) N.ki N.sr N.le N.fi N.fo N.to
