theorem lst_0 : mC 0 = cd0 := rfl
set_option maxRecDepth 20000 in
theorem k0_3i (ls : Lcl) (x : Int32) (st : List Value) (σ : Sg) (M : Mem) (Q : Po) : wp 0 3 ls (.int x :: st) σ M Q = wp 0 4 ls (.int x :: .int x :: st) σ M Q := x_dup_i (pc := 3) (npc := 4) (a := 0) (b := 0) (d := 0) (w := 0) (sw := []) (cv := .null) lst_0 rfl ls x st σ M Q
set_option maxRecDepth 20000 in
theorem k0_3r (ls : Lcl) (x : Nat) (st : List Value) (σ : Sg) (M : Mem) (Q : Po) : wp 0 3 ls (.ref x :: st) σ M Q = wp 0 4 ls (.ref x :: .ref x :: st) σ M Q := x_dup_r (pc := 3) (npc := 4) (a := 0) (b := 0) (d := 0) (w := 0) (sw := []) (cv := .null) lst_0 rfl ls x st σ M Q
set_option maxRecDepth 20000 in
theorem k0_3f (ls : Lcl) (x : UInt32) (st : List Value) (σ : Sg) (M : Mem) (Q : Po) : wp 0 3 ls (.float x :: st) σ M Q = wp 0 4 ls (.float x :: .float x :: st) σ M Q := x_dup_f (pc := 3) (npc := 4) (a := 0) (b := 0) (d := 0) (w := 0) (sw := []) (cv := .null) lst_0 rfl ls x st σ M Q
set_option maxRecDepth 20000 in
theorem k0_4 {σ : Sg} (ls : Lcl) (o : Nat) (st : List Value) (h4 : le4 st = true) (h : sT σ o = 16) (M : Mem) (Q : Po) : wp 0 4 ls (.ref o :: st) σ M Q = wp 1 0 [some (.ref o)] [] σ M (fun r σ1 M1 => wp 0 7 ls (pushR r st) σ1 M1 Q) := x_callI (pc := 4) (npc := 7) (a := 1) (b := 0) (d := 16) (w := 64) (sw := []) (cv := .retAddr 1) lst_0 rfl (Nat.le_of_ble_eq_true rfl) ls (.ref o :: st) rfl h4 rfl σ h M Q
set_option maxRecDepth 20000 in
theorem k0_7 (l0 l1 l2 l3 : Option Value) (x : Nat) (h : isLong l0 = false) (st : List Value) (σ : Sg) (M : Mem) (Q : Po) : wp 0 7 [l0, l1, l2, l3] (.ref x :: st) σ M Q = wp 0 8 [l0, some (.ref x), l2, l3] st σ M Q := x_astore_n (pc := 7) (npc := 8) (a := 0) (b := 0) (d := 0) (w := 0) (sw := []) (cv := .null) lst_0 rfl [l0, l1, l2, l3] x (Nat.le_of_ble_eq_true rfl) (na_1 h) st σ M Q
set_option maxRecDepth 20000 in
theorem k0_11i (ls : Lcl) (x : Int32) (st : List Value) (σ : Sg) (M : Mem) (Q : Po) : wp 0 11 ls (.int x :: st) σ M Q = wp 0 12 ls (.int x :: .int x :: st) σ M Q := x_dup_i (pc := 11) (npc := 12) (a := 0) (b := 0) (d := 0) (w := 0) (sw := []) (cv := .null) lst_0 rfl ls x st σ M Q
set_option maxRecDepth 20000 in
theorem k0_11r (ls : Lcl) (x : Nat) (st : List Value) (σ : Sg) (M : Mem) (Q : Po) : wp 0 11 ls (.ref x :: st) σ M Q = wp 0 12 ls (.ref x :: .ref x :: st) σ M Q := x_dup_r (pc := 11) (npc := 12) (a := 0) (b := 0) (d := 0) (w := 0) (sw := []) (cv := .null) lst_0 rfl ls x st σ M Q
set_option maxRecDepth 20000 in
theorem k0_11f (ls : Lcl) (x : UInt32) (st : List Value) (σ : Sg) (M : Mem) (Q : Po) : wp 0 11 ls (.float x :: st) σ M Q = wp 0 12 ls (.float x :: .float x :: st) σ M Q := x_dup_f (pc := 11) (npc := 12) (a := 0) (b := 0) (d := 0) (w := 0) (sw := []) (cv := .null) lst_0 rfl ls x st σ M Q
set_option maxRecDepth 20000 in
theorem k0_12 {σ : Sg} (ls : Lcl) (o : Nat) (st : List Value) (h4 : le4 st = true) (h : sT σ o = 17) (M : Mem) (Q : Po) : wp 0 12 ls (.ref o :: st) σ M Q = wp 94 0 [some (.ref o)] [] σ M (fun r σ1 M1 => wp 0 15 ls (pushR r st) σ1 M1 Q) := x_callI (pc := 12) (npc := 15) (a := 94) (b := 0) (d := 17) (w := 700) (sw := []) (cv := .retAddr 1) lst_0 rfl (Nat.le_of_ble_eq_true rfl) ls (.ref o :: st) rfl h4 rfl σ h M Q
set_option maxRecDepth 20000 in
theorem k0_15 (l0 l1 l2 l3 : Option Value) (x : Nat) (h : isLong l1 = false) (st : List Value) (σ : Sg) (M : Mem) (Q : Po) : wp 0 15 [l0, l1, l2, l3] (.ref x :: st) σ M Q = wp 0 16 [l0, l1, some (.ref x), l3] st σ M Q := x_astore_n (pc := 15) (npc := 16) (a := 0) (b := 0) (d := 0) (w := 0) (sw := []) (cv := .null) lst_0 rfl [l0, l1, l2, l3] x (Nat.le_of_ble_eq_true rfl) (na_2 h) st σ M Q
set_option maxRecDepth 20000 in
theorem k0_16 (ls : Lcl) (st : List Value) (σ : Sg) (M : Mem) (Q : Po) : wp 0 16 ls st σ M Q = wp 0 17 ls (.int (nI 0) :: st) σ M Q := x_iconst (pc := 16) (npc := 17) (a := 0) (b := 0) (d := 0) (w := 0) (sw := []) (cv := .int (nI 0)) lst_0 rfl ls st σ M Q
set_option maxRecDepth 20000 in
theorem k0_17 (l0 l1 l2 l3 : Option Value) (x : Int32) (h : isLong l2 = false) (st : List Value) (σ : Sg) (M : Mem) (Q : Po) : wp 0 17 [l0, l1, l2, l3] (.int x :: st) σ M Q = wp 0 18 [l0, l1, l2, some (.int x)] st σ M Q := x_istore_n (pc := 17) (npc := 18) (a := 0) (b := 0) (d := 0) (w := 0) (sw := []) (cv := .null) lst_0 rfl [l0, l1, l2, l3] x (Nat.le_of_ble_eq_true rfl) (na_3 h) st σ M Q
set_option maxRecDepth 20000 in
theorem k0_18 (l0 l1 l2 : Option Value) (x : Int32) (st : List Value) (σ : Sg) (M : Mem) (Q : Po) : wp 0 18 [l0, l1, l2, some (.int x)] st σ M Q = wp 0 19 [l0, l1, l2, some (.int x)] (.int x :: st) σ M Q := x_iload_n (pc := 18) (npc := 19) (a := 0) (b := 0) (d := 0) (w := 0) (sw := []) (cv := .null) lst_0 rfl [l0, l1, l2, some (.int x)] x rfl st σ M Q
set_option maxRecDepth 20000 in
theorem k0_19 (l1 l2 l3 : Option Value) (x : Nat) (st : List Value) (σ : Sg) (M : Mem) (Q : Po) : wp 0 19 [some (.ref x), l1, l2, l3] st σ M Q = wp 0 20 [some (.ref x), l1, l2, l3] (.ref x :: st) σ M Q := x_aload_n (pc := 19) (npc := 20) (a := 0) (b := 0) (d := 0) (w := 0) (sw := []) (cv := .null) lst_0 rfl [some (.ref x), l1, l2, l3] x rfl st σ M Q
set_option maxRecDepth 20000 in
theorem k0_20 {σ : Sg} (ls : Lcl) (o : Nat) (h : isAr (sT σ o) = true) (st : List Value) (M : Mem) (Q : Po) : wp 0 20 ls (.ref o :: st) σ M Q = wp 0 21 ls (.int (nI (sL σ o)) :: st) σ M Q := x_alen (pc := 20) (npc := 21) (a := 0) (b := 0) (d := 0) (w := 0) (sw := []) (cv := .null) lst_0 rfl ls o h st Q
set_option maxRecDepth 20000 in
theorem k0_21 (ls : Lcl) (st : List Value) (σ : Sg) (M : Mem) (Q : Po) : wp 0 21 ls st σ M Q = wp 0 22 ls (.int (nI 4) :: st) σ M Q := x_iconst (pc := 21) (npc := 22) (a := 0) (b := 0) (d := 0) (w := 0) (sw := []) (cv := .int (nI 4)) lst_0 rfl ls st σ M Q
set_option maxRecDepth 20000 in
theorem k0_22 (ls : Lcl) (x y : Int32) (st : List Value) (σ : Sg) (M : Mem) (Q : Po) : wp 0 22 ls (.int y :: .int x :: st) σ M Q = wp 0 23 ls (.int (x - y) :: st) σ M Q := x_isub (pc := 22) (npc := 23) (a := 0) (b := 0) (d := 0) (w := 0) (sw := []) (cv := .null) lst_0 rfl ls x y st σ M Q
set_option maxRecDepth 20000 in
theorem k0_23 (ls : Lcl) (x y : Int32) (st : List Value) (σ : Sg) (M : Mem) (Q : Po) : wp 0 23 ls (.int y :: .int x :: st) σ M Q = if y < x then wp 0 684 ls st σ M Q else wp 0 26 ls st σ M Q := x_icmp_gt (pc := 23) (npc := 26) (a := 684) (b := 0) (d := 0) (w := 0) (sw := []) (cv := .null) lst_0 rfl ls x y st σ M Q
set_option maxRecDepth 20000 in
theorem k0_26 (l1 l2 l3 : Option Value) (x : Nat) (st : List Value) (σ : Sg) (M : Mem) (Q : Po) : wp 0 26 [some (.ref x), l1, l2, l3] st σ M Q = wp 0 27 [some (.ref x), l1, l2, l3] (.ref x :: st) σ M Q := x_aload_n (pc := 26) (npc := 27) (a := 0) (b := 0) (d := 0) (w := 0) (sw := []) (cv := .null) lst_0 rfl [some (.ref x), l1, l2, l3] x rfl st σ M Q
set_option maxRecDepth 20000 in
theorem k0_27 (l0 l1 l2 : Option Value) (x : Int32) (st : List Value) (σ : Sg) (M : Mem) (Q : Po) : wp 0 27 [l0, l1, l2, some (.int x)] st σ M Q = wp 0 28 [l0, l1, l2, some (.int x)] (.int x :: st) σ M Q := x_iload_n (pc := 27) (npc := 28) (a := 0) (b := 0) (d := 0) (w := 0) (sw := []) (cv := .null) lst_0 rfl [l0, l1, l2, some (.int x)] x rfl st σ M Q
set_option maxRecDepth 20000 in
theorem k0_28 {σ : Sg} (ls : Lcl) (o j : Nat) (h : isI (sT σ o) = true) (hj : j < sL σ o) (hn : sL σ o < 1000000) (st : List Value) (M : Mem) (Q : Po) : wp 0 28 ls (.int (nI j) :: .ref o :: st) σ M Q = wp 0 29 ls (.int (M o j) :: st) σ M Q := x_iaload (pc := 28) (npc := 29) (a := 0) (b := 0) (d := 0) (w := 0) (sw := []) (cv := .null) lst_0 rfl ls o j h hj hn st Q
set_option maxRecDepth 20000 in
theorem k0_29 (ls : Lcl) (st : List Value) (σ : Sg) (M : Mem) (Q : Po) : wp 0 29 ls st σ M Q = wp 0 31 ls (.int (nI 31) :: st) σ M Q := x_bipush (pc := 29) (npc := 31) (a := 0) (b := 0) (d := 0) (w := 0) (sw := []) (cv := .int (nI 31)) lst_0 rfl ls st σ M Q
set_option maxRecDepth 20000 in
theorem k0_31 (ls : Lcl) (x y : Int32) (st : List Value) (σ : Sg) (M : Mem) (Q : Po) : wp 0 31 ls (.int y :: .int x :: st) σ M Q = wp 0 32 ls (.int (x &&& y) :: st) σ M Q := x_iand (pc := 31) (npc := 32) (a := 0) (b := 0) (d := 0) (w := 0) (sw := []) (cv := .null) lst_0 rfl ls x y st σ M Q
set_option maxRecDepth 20000 in
theorem k0_32 (ls : Lcl) (x : Int32) (st : List Value) (σ : Sg) (M : Mem) (Q : Po) : wp 0 32 ls (.int x :: st) σ M Q = (if x = nI 0 then wp 0 136 ls st σ M Q else if x = nI 1 then wp 0 149 ls st σ M Q else if x = nI 2 then wp 0 192 ls st σ M Q else if x = nI 3 then wp 0 241 ls st σ M Q else if x = nI 4 then wp 0 264 ls st σ M Q else if x = nI 5 then wp 0 287 ls st σ M Q else if x = nI 6 then wp 0 300 ls st σ M Q else if x = nI 7 then wp 0 333 ls st σ M Q else if x = nI 8 then wp 0 366 ls st σ M Q else if x = nI 9 then wp 0 399 ls st σ M Q else if x = nI 10 then wp 0 422 ls st σ M Q else if x = nI 11 then wp 0 445 ls st σ M Q else if x = nI 12 then wp 0 478 ls st σ M Q else if x = nI 13 then wp 0 501 ls st σ M Q else if x = nI 14 then wp 0 514 ls st σ M Q else if x = nI 15 then wp 0 537 ls st σ M Q else if x = nI 16 then wp 0 570 ls st σ M Q else if x = nI 17 then wp 0 593 ls st σ M Q else if x = nI 18 then wp 0 606 ls st σ M Q else if x = nI 19 then wp 0 629 ls st σ M Q else if x = nI 20 then wp 0 642 ls st σ M Q else if x = nI 21 then wp 0 665 ls st σ M Q else wp 0 678 ls st σ M Q) := (x_tsw (pc := 32) (npc := 136) (a := 678) (b := 0) (d := 0) (w := 0) (sw := [(nI 0, 136), (nI 1, 149), (nI 2, 192), (nI 3, 241), (nI 4, 264), (nI 5, 287), (nI 6, 300), (nI 7, 333), (nI 8, 366), (nI 9, 399), (nI 10, 422), (nI 11, 445), (nI 12, 478), (nI 13, 501), (nI 14, 514), (nI 15, 537), (nI 16, 570), (nI 17, 593), (nI 18, 606), (nI 19, 629), (nI 20, 642), (nI 21, 665)]) (cv := .null) lst_0 rfl ls x st σ M Q).trans (by simp only [wp_sw_c, wp_sw_n])
set_option maxRecDepth 20000 in
theorem k0_136 (l0 l2 l3 : Option Value) (x : Nat) (st : List Value) (σ : Sg) (M : Mem) (Q : Po) : wp 0 136 [l0, some (.ref x), l2, l3] st σ M Q = wp 0 137 [l0, some (.ref x), l2, l3] (.ref x :: st) σ M Q := x_aload_n (pc := 136) (npc := 137) (a := 0) (b := 0) (d := 0) (w := 0) (sw := []) (cv := .null) lst_0 rfl [l0, some (.ref x), l2, l3] x rfl st σ M Q
set_option maxRecDepth 20000 in
theorem k0_137 {σ : Sg} (ls : Lcl) (o : Nat) (st : List Value) (h4 : le4 st = true) (h : sT σ o = 16) (M : Mem) (Q : Po) : wp 0 137 ls (.ref o :: st) σ M Q = wp 2 0 [some (.ref o)] [] σ M (fun r σ1 M1 => wp 0 140 ls (pushR r st) σ1 M1 Q) := x_callV (pc := 137) (npc := 140) (a := 2) (b := 0) (d := 16) (w := 295) (sw := []) (cv := .retAddr 1) lst_0 rfl ls (.ref o :: st) rfl h4 rfl σ h M Q
set_option maxRecDepth 20000 in
theorem k0_140 (l0 l1 l3 : Option Value) (x : Nat) (st : List Value) (σ : Sg) (M : Mem) (Q : Po) : wp 0 140 [l0, l1, some (.ref x), l3] st σ M Q = wp 0 141 [l0, l1, some (.ref x), l3] (.ref x :: st) σ M Q := x_aload_n (pc := 140) (npc := 141) (a := 0) (b := 0) (d := 0) (w := 0) (sw := []) (cv := .null) lst_0 rfl [l0, l1, some (.ref x), l3] x rfl st σ M Q
set_option maxRecDepth 20000 in
theorem k0_141 {σ : Sg} (ls : Lcl) (o : Nat) (st : List Value) (h4 : le4 st = true) (h : sT σ o = 17) (M : Mem) (Q : Po) : wp 0 141 ls (.ref o :: st) σ M Q = wp 126 0 [some (.ref o)] [] σ M (fun r σ1 M1 => wp 0 144 ls (pushR r st) σ1 M1 Q) := x_callV (pc := 141) (npc := 144) (a := 126) (b := 0) (d := 17) (w := 774) (sw := []) (cv := .retAddr 1) lst_0 rfl ls (.ref o :: st) rfl h4 rfl σ h M Q
set_option maxRecDepth 20000 in
theorem k0_144 (ls : Lcl) (x y : Int32) (st : List Value) (σ : Sg) (M : Mem) (Q : Po) : wp 0 144 ls (.int y :: .int x :: st) σ M Q = if x = y then wp 0 678 ls st σ M Q else wp 0 147 ls st σ M Q := x_icmp_eq (pc := 144) (npc := 147) (a := 678) (b := 0) (d := 0) (w := 0) (sw := []) (cv := .null) lst_0 rfl ls x y st σ M Q
set_option maxRecDepth 20000 in
theorem k0_147 (ls : Lcl) (st : List Value) (σ : Sg) (M : Mem) (Q : Po) : wp 0 147 ls st σ M Q = wp 0 148 ls (.int (nI 0) :: st) σ M Q := x_iconst (pc := 147) (npc := 148) (a := 0) (b := 0) (d := 0) (w := 0) (sw := []) (cv := .int (nI 0)) lst_0 rfl ls st σ M Q
set_option maxRecDepth 20000 in
theorem k0_148 (ls : Lcl) (x : Int32) (h : okR (.int (nI 1)) x = true) (σ : Sg) (M : Mem) (Q : Po) : wp 0 148 ls [.int x] σ M Q = Q (some (.int x)) σ M := x_ireturn (pc := 148) (npc := 149) (a := 0) (b := 0) (d := 0) (w := 0) (sw := []) (cv := .int (nI 1)) lst_0 rfl ls x h σ M Q
set_option maxRecDepth 20000 in
theorem k0_149 (l0 l2 l3 : Option Value) (x : Nat) (st : List Value) (σ : Sg) (M : Mem) (Q : Po) : wp 0 149 [l0, some (.ref x), l2, l3] st σ M Q = wp 0 150 [l0, some (.ref x), l2, l3] (.ref x :: st) σ M Q := x_aload_n (pc := 149) (npc := 150) (a := 0) (b := 0) (d := 0) (w := 0) (sw := []) (cv := .null) lst_0 rfl [l0, some (.ref x), l2, l3] x rfl st σ M Q
set_option maxRecDepth 20000 in
theorem k0_150 (l1 l2 l3 : Option Value) (x : Nat) (st : List Value) (σ : Sg) (M : Mem) (Q : Po) : wp 0 150 [some (.ref x), l1, l2, l3] st σ M Q = wp 0 151 [some (.ref x), l1, l2, l3] (.ref x :: st) σ M Q := x_aload_n (pc := 150) (npc := 151) (a := 0) (b := 0) (d := 0) (w := 0) (sw := []) (cv := .null) lst_0 rfl [some (.ref x), l1, l2, l3] x rfl st σ M Q
set_option maxRecDepth 20000 in
theorem k0_151 (l0 l1 l2 : Option Value) (x : Int32) (st : List Value) (σ : Sg) (M : Mem) (Q : Po) : wp 0 151 [l0, l1, l2, some (.int x)] st σ M Q = wp 0 152 [l0, l1, l2, some (.int x)] (.int x :: st) σ M Q := x_iload_n (pc := 151) (npc := 152) (a := 0) (b := 0) (d := 0) (w := 0) (sw := []) (cv := .null) lst_0 rfl [l0, l1, l2, some (.int x)] x rfl st σ M Q
set_option maxRecDepth 20000 in
theorem k0_152 (ls : Lcl) (st : List Value) (σ : Sg) (M : Mem) (Q : Po) : wp 0 152 ls st σ M Q = wp 0 153 ls (.int (nI 1) :: st) σ M Q := x_iconst (pc := 152) (npc := 153) (a := 0) (b := 0) (d := 0) (w := 0) (sw := []) (cv := .int (nI 1)) lst_0 rfl ls st σ M Q
set_option maxRecDepth 20000 in
theorem k0_153 (ls : Lcl) (x y : Int32) (st : List Value) (σ : Sg) (M : Mem) (Q : Po) : wp 0 153 ls (.int y :: .int x :: st) σ M Q = wp 0 154 ls (.int (x + y) :: st) σ M Q := x_iadd (pc := 153) (npc := 154) (a := 0) (b := 0) (d := 0) (w := 0) (sw := []) (cv := .null) lst_0 rfl ls x y st σ M Q
set_option maxRecDepth 20000 in
theorem k0_154 {σ : Sg} (ls : Lcl) (o j : Nat) (h : isI (sT σ o) = true) (hj : j < sL σ o) (hn : sL σ o < 1000000) (st : List Value) (M : Mem) (Q : Po) : wp 0 154 ls (.int (nI j) :: .ref o :: st) σ M Q = wp 0 155 ls (.int (M o j) :: st) σ M Q := x_iaload (pc := 154) (npc := 155) (a := 0) (b := 0) (d := 0) (w := 0) (sw := []) (cv := .null) lst_0 rfl ls o j h hj hn st Q
set_option maxRecDepth 20000 in
theorem k0_155 (l1 l2 l3 : Option Value) (x : Nat) (st : List Value) (σ : Sg) (M : Mem) (Q : Po) : wp 0 155 [some (.ref x), l1, l2, l3] st σ M Q = wp 0 156 [some (.ref x), l1, l2, l3] (.ref x :: st) σ M Q := x_aload_n (pc := 155) (npc := 156) (a := 0) (b := 0) (d := 0) (w := 0) (sw := []) (cv := .null) lst_0 rfl [some (.ref x), l1, l2, l3] x rfl st σ M Q
set_option maxRecDepth 20000 in
theorem k0_156 (l0 l1 l2 : Option Value) (x : Int32) (st : List Value) (σ : Sg) (M : Mem) (Q : Po) : wp 0 156 [l0, l1, l2, some (.int x)] st σ M Q = wp 0 157 [l0, l1, l2, some (.int x)] (.int x :: st) σ M Q := x_iload_n (pc := 156) (npc := 157) (a := 0) (b := 0) (d := 0) (w := 0) (sw := []) (cv := .null) lst_0 rfl [l0, l1, l2, some (.int x)] x rfl st σ M Q
set_option maxRecDepth 20000 in
theorem k0_157 (ls : Lcl) (st : List Value) (σ : Sg) (M : Mem) (Q : Po) : wp 0 157 ls st σ M Q = wp 0 158 ls (.int (nI 2) :: st) σ M Q := x_iconst (pc := 157) (npc := 158) (a := 0) (b := 0) (d := 0) (w := 0) (sw := []) (cv := .int (nI 2)) lst_0 rfl ls st σ M Q
set_option maxRecDepth 20000 in
theorem k0_158 (ls : Lcl) (x y : Int32) (st : List Value) (σ : Sg) (M : Mem) (Q : Po) : wp 0 158 ls (.int y :: .int x :: st) σ M Q = wp 0 159 ls (.int (x + y) :: st) σ M Q := x_iadd (pc := 158) (npc := 159) (a := 0) (b := 0) (d := 0) (w := 0) (sw := []) (cv := .null) lst_0 rfl ls x y st σ M Q
set_option maxRecDepth 20000 in
theorem k0_159 {σ : Sg} (ls : Lcl) (o j : Nat) (h : isI (sT σ o) = true) (hj : j < sL σ o) (hn : sL σ o < 1000000) (st : List Value) (M : Mem) (Q : Po) : wp 0 159 ls (.int (nI j) :: .ref o :: st) σ M Q = wp 0 160 ls (.int (M o j) :: st) σ M Q := x_iaload (pc := 159) (npc := 160) (a := 0) (b := 0) (d := 0) (w := 0) (sw := []) (cv := .null) lst_0 rfl ls o j h hj hn st Q
set_option maxRecDepth 20000 in
theorem k0_160 (l1 l2 l3 : Option Value) (x : Nat) (st : List Value) (σ : Sg) (M : Mem) (Q : Po) : wp 0 160 [some (.ref x), l1, l2, l3] st σ M Q = wp 0 161 [some (.ref x), l1, l2, l3] (.ref x :: st) σ M Q := x_aload_n (pc := 160) (npc := 161) (a := 0) (b := 0) (d := 0) (w := 0) (sw := []) (cv := .null) lst_0 rfl [some (.ref x), l1, l2, l3] x rfl st σ M Q
set_option maxRecDepth 20000 in
theorem k0_161 (l0 l1 l2 : Option Value) (x : Int32) (st : List Value) (σ : Sg) (M : Mem) (Q : Po) : wp 0 161 [l0, l1, l2, some (.int x)] st σ M Q = wp 0 162 [l0, l1, l2, some (.int x)] (.int x :: st) σ M Q := x_iload_n (pc := 161) (npc := 162) (a := 0) (b := 0) (d := 0) (w := 0) (sw := []) (cv := .null) lst_0 rfl [l0, l1, l2, some (.int x)] x rfl st σ M Q
set_option maxRecDepth 20000 in
theorem k0_162 (ls : Lcl) (st : List Value) (σ : Sg) (M : Mem) (Q : Po) : wp 0 162 ls st σ M Q = wp 0 163 ls (.int (nI 3) :: st) σ M Q := x_iconst (pc := 162) (npc := 163) (a := 0) (b := 0) (d := 0) (w := 0) (sw := []) (cv := .int (nI 3)) lst_0 rfl ls st σ M Q
set_option maxRecDepth 20000 in
theorem k0_163 (ls : Lcl) (x y : Int32) (st : List Value) (σ : Sg) (M : Mem) (Q : Po) : wp 0 163 ls (.int y :: .int x :: st) σ M Q = wp 0 164 ls (.int (x + y) :: st) σ M Q := x_iadd (pc := 163) (npc := 164) (a := 0) (b := 0) (d := 0) (w := 0) (sw := []) (cv := .null) lst_0 rfl ls x y st σ M Q
set_option maxRecDepth 20000 in
theorem k0_164 {σ : Sg} (ls : Lcl) (o j : Nat) (h : isI (sT σ o) = true) (hj : j < sL σ o) (hn : sL σ o < 1000000) (st : List Value) (M : Mem) (Q : Po) : wp 0 164 ls (.int (nI j) :: .ref o :: st) σ M Q = wp 0 165 ls (.int (M o j) :: st) σ M Q := x_iaload (pc := 164) (npc := 165) (a := 0) (b := 0) (d := 0) (w := 0) (sw := []) (cv := .null) lst_0 rfl ls o j h hj hn st Q
set_option maxRecDepth 20000 in
theorem k0_165 {σ : Sg} (ls : Lcl) (o : Nat) (a0 : Int32) (a1 : Int32) (a2 : Int32) (st : List Value) (h4 : le4 st = true) (h : sT σ o = 16) (M : Mem) (Q : Po) : wp 0 165 ls (.int a2 :: .int a1 :: .int a0 :: .ref o :: st) σ M Q = wp 3 0 [some (.ref o), some (.int a0), some (.int a1), some (.int a2)] [] σ M (fun r σ1 M1 => wp 0 168 ls (pushR r st) σ1 M1 Q) := x_callV (pc := 165) (npc := 168) (a := 3) (b := 0) (d := 16) (w := 327) (sw := []) (cv := .retAddr 4) lst_0 rfl ls (.int a2 :: .int a1 :: .int a0 :: .ref o :: st) rfl h4 rfl σ h M Q
set_option maxRecDepth 20000 in
theorem k0_168 (l0 l1 l3 : Option Value) (x : Nat) (st : List Value) (σ : Sg) (M : Mem) (Q : Po) : wp 0 168 [l0, l1, some (.ref x), l3] st σ M Q = wp 0 169 [l0, l1, some (.ref x), l3] (.ref x :: st) σ M Q := x_aload_n (pc := 168) (npc := 169) (a := 0) (b := 0) (d := 0) (w := 0) (sw := []) (cv := .null) lst_0 rfl [l0, l1, some (.ref x), l3] x rfl st σ M Q
set_option maxRecDepth 20000 in
theorem k0_169 (l1 l2 l3 : Option Value) (x : Nat) (st : List Value) (σ : Sg) (M : Mem) (Q : Po) : wp 0 169 [some (.ref x), l1, l2, l3] st σ M Q = wp 0 170 [some (.ref x), l1, l2, l3] (.ref x :: st) σ M Q := x_aload_n (pc := 169) (npc := 170) (a := 0) (b := 0) (d := 0) (w := 0) (sw := []) (cv := .null) lst_0 rfl [some (.ref x), l1, l2, l3] x rfl st σ M Q
set_option maxRecDepth 20000 in
theorem k0_170 (l0 l1 l2 : Option Value) (x : Int32) (st : List Value) (σ : Sg) (M : Mem) (Q : Po) : wp 0 170 [l0, l1, l2, some (.int x)] st σ M Q = wp 0 171 [l0, l1, l2, some (.int x)] (.int x :: st) σ M Q := x_iload_n (pc := 170) (npc := 171) (a := 0) (b := 0) (d := 0) (w := 0) (sw := []) (cv := .null) lst_0 rfl [l0, l1, l2, some (.int x)] x rfl st σ M Q
set_option maxRecDepth 20000 in
theorem k0_171 (ls : Lcl) (st : List Value) (σ : Sg) (M : Mem) (Q : Po) : wp 0 171 ls st σ M Q = wp 0 172 ls (.int (nI 1) :: st) σ M Q := x_iconst (pc := 171) (npc := 172) (a := 0) (b := 0) (d := 0) (w := 0) (sw := []) (cv := .int (nI 1)) lst_0 rfl ls st σ M Q
set_option maxRecDepth 20000 in
theorem k0_172 (ls : Lcl) (x y : Int32) (st : List Value) (σ : Sg) (M : Mem) (Q : Po) : wp 0 172 ls (.int y :: .int x :: st) σ M Q = wp 0 173 ls (.int (x + y) :: st) σ M Q := x_iadd (pc := 172) (npc := 173) (a := 0) (b := 0) (d := 0) (w := 0) (sw := []) (cv := .null) lst_0 rfl ls x y st σ M Q
set_option maxRecDepth 20000 in
theorem k0_173 {σ : Sg} (ls : Lcl) (o j : Nat) (h : isI (sT σ o) = true) (hj : j < sL σ o) (hn : sL σ o < 1000000) (st : List Value) (M : Mem) (Q : Po) : wp 0 173 ls (.int (nI j) :: .ref o :: st) σ M Q = wp 0 174 ls (.int (M o j) :: st) σ M Q := x_iaload (pc := 173) (npc := 174) (a := 0) (b := 0) (d := 0) (w := 0) (sw := []) (cv := .null) lst_0 rfl ls o j h hj hn st Q
set_option maxRecDepth 20000 in
theorem k0_174 (l1 l2 l3 : Option Value) (x : Nat) (st : List Value) (σ : Sg) (M : Mem) (Q : Po) : wp 0 174 [some (.ref x), l1, l2, l3] st σ M Q = wp 0 175 [some (.ref x), l1, l2, l3] (.ref x :: st) σ M Q := x_aload_n (pc := 174) (npc := 175) (a := 0) (b := 0) (d := 0) (w := 0) (sw := []) (cv := .null) lst_0 rfl [some (.ref x), l1, l2, l3] x rfl st σ M Q
set_option maxRecDepth 20000 in
theorem k0_175 (l0 l1 l2 : Option Value) (x : Int32) (st : List Value) (σ : Sg) (M : Mem) (Q : Po) : wp 0 175 [l0, l1, l2, some (.int x)] st σ M Q = wp 0 176 [l0, l1, l2, some (.int x)] (.int x :: st) σ M Q := x_iload_n (pc := 175) (npc := 176) (a := 0) (b := 0) (d := 0) (w := 0) (sw := []) (cv := .null) lst_0 rfl [l0, l1, l2, some (.int x)] x rfl st σ M Q
set_option maxRecDepth 20000 in
theorem k0_176 (ls : Lcl) (st : List Value) (σ : Sg) (M : Mem) (Q : Po) : wp 0 176 ls st σ M Q = wp 0 177 ls (.int (nI 2) :: st) σ M Q := x_iconst (pc := 176) (npc := 177) (a := 0) (b := 0) (d := 0) (w := 0) (sw := []) (cv := .int (nI 2)) lst_0 rfl ls st σ M Q
set_option maxRecDepth 20000 in
theorem k0_177 (ls : Lcl) (x y : Int32) (st : List Value) (σ : Sg) (M : Mem) (Q : Po) : wp 0 177 ls (.int y :: .int x :: st) σ M Q = wp 0 178 ls (.int (x + y) :: st) σ M Q := x_iadd (pc := 177) (npc := 178) (a := 0) (b := 0) (d := 0) (w := 0) (sw := []) (cv := .null) lst_0 rfl ls x y st σ M Q
set_option maxRecDepth 20000 in
theorem k0_178 {σ : Sg} (ls : Lcl) (o j : Nat) (h : isI (sT σ o) = true) (hj : j < sL σ o) (hn : sL σ o < 1000000) (st : List Value) (M : Mem) (Q : Po) : wp 0 178 ls (.int (nI j) :: .ref o :: st) σ M Q = wp 0 179 ls (.int (M o j) :: st) σ M Q := x_iaload (pc := 178) (npc := 179) (a := 0) (b := 0) (d := 0) (w := 0) (sw := []) (cv := .null) lst_0 rfl ls o j h hj hn st Q
set_option maxRecDepth 20000 in
theorem k0_179 (l1 l2 l3 : Option Value) (x : Nat) (st : List Value) (σ : Sg) (M : Mem) (Q : Po) : wp 0 179 [some (.ref x), l1, l2, l3] st σ M Q = wp 0 180 [some (.ref x), l1, l2, l3] (.ref x :: st) σ M Q := x_aload_n (pc := 179) (npc := 180) (a := 0) (b := 0) (d := 0) (w := 0) (sw := []) (cv := .null) lst_0 rfl [some (.ref x), l1, l2, l3] x rfl st σ M Q
set_option maxRecDepth 20000 in
theorem k0_180 (l0 l1 l2 : Option Value) (x : Int32) (st : List Value) (σ : Sg) (M : Mem) (Q : Po) : wp 0 180 [l0, l1, l2, some (.int x)] st σ M Q = wp 0 181 [l0, l1, l2, some (.int x)] (.int x :: st) σ M Q := x_iload_n (pc := 180) (npc := 181) (a := 0) (b := 0) (d := 0) (w := 0) (sw := []) (cv := .null) lst_0 rfl [l0, l1, l2, some (.int x)] x rfl st σ M Q
set_option maxRecDepth 20000 in
theorem k0_181 (ls : Lcl) (st : List Value) (σ : Sg) (M : Mem) (Q : Po) : wp 0 181 ls st σ M Q = wp 0 182 ls (.int (nI 3) :: st) σ M Q := x_iconst (pc := 181) (npc := 182) (a := 0) (b := 0) (d := 0) (w := 0) (sw := []) (cv := .int (nI 3)) lst_0 rfl ls st σ M Q
set_option maxRecDepth 20000 in
theorem k0_182 (ls : Lcl) (x y : Int32) (st : List Value) (σ : Sg) (M : Mem) (Q : Po) : wp 0 182 ls (.int y :: .int x :: st) σ M Q = wp 0 183 ls (.int (x + y) :: st) σ M Q := x_iadd (pc := 182) (npc := 183) (a := 0) (b := 0) (d := 0) (w := 0) (sw := []) (cv := .null) lst_0 rfl ls x y st σ M Q
set_option maxRecDepth 20000 in
theorem k0_183 {σ : Sg} (ls : Lcl) (o j : Nat) (h : isI (sT σ o) = true) (hj : j < sL σ o) (hn : sL σ o < 1000000) (st : List Value) (M : Mem) (Q : Po) : wp 0 183 ls (.int (nI j) :: .ref o :: st) σ M Q = wp 0 184 ls (.int (M o j) :: st) σ M Q := x_iaload (pc := 183) (npc := 184) (a := 0) (b := 0) (d := 0) (w := 0) (sw := []) (cv := .null) lst_0 rfl ls o j h hj hn st Q
set_option maxRecDepth 20000 in
theorem k0_184 {σ : Sg} (ls : Lcl) (o : Nat) (a0 : Int32) (a1 : Int32) (a2 : Int32) (st : List Value) (h4 : le4 st = true) (h : sT σ o = 17) (M : Mem) (Q : Po) : wp 0 184 ls (.int a2 :: .int a1 :: .int a0 :: .ref o :: st) σ M Q = wp 127 0 [some (.ref o), some (.int a0), some (.int a1), some (.int a2)] [] σ M (fun r σ1 M1 => wp 0 187 ls (pushR r st) σ1 M1 Q) := x_callV (pc := 184) (npc := 187) (a := 127) (b := 0) (d := 17) (w := 798) (sw := []) (cv := .retAddr 4) lst_0 rfl ls (.int a2 :: .int a1 :: .int a0 :: .ref o :: st) rfl h4 rfl σ h M Q
set_option maxRecDepth 20000 in
theorem k0_187 (ls : Lcl) (x y : Int32) (st : List Value) (σ : Sg) (M : Mem) (Q : Po) : wp 0 187 ls (.int y :: .int x :: st) σ M Q = if x = y then wp 0 678 ls st σ M Q else wp 0 190 ls st σ M Q := x_icmp_eq (pc := 187) (npc := 190) (a := 678) (b := 0) (d := 0) (w := 0) (sw := []) (cv := .null) lst_0 rfl ls x y st σ M Q
set_option maxRecDepth 20000 in
theorem k0_190 (ls : Lcl) (st : List Value) (σ : Sg) (M : Mem) (Q : Po) : wp 0 190 ls st σ M Q = wp 0 191 ls (.int (nI 0) :: st) σ M Q := x_iconst (pc := 190) (npc := 191) (a := 0) (b := 0) (d := 0) (w := 0) (sw := []) (cv := .int (nI 0)) lst_0 rfl ls st σ M Q
set_option maxRecDepth 20000 in
theorem k0_191 (ls : Lcl) (x : Int32) (h : okR (.int (nI 1)) x = true) (σ : Sg) (M : Mem) (Q : Po) : wp 0 191 ls [.int x] σ M Q = Q (some (.int x)) σ M := x_ireturn (pc := 191) (npc := 192) (a := 0) (b := 0) (d := 0) (w := 0) (sw := []) (cv := .int (nI 1)) lst_0 rfl ls x h σ M Q
set_option maxRecDepth 20000 in
theorem k0_192 (l0 l2 l3 : Option Value) (x : Nat) (st : List Value) (σ : Sg) (M : Mem) (Q : Po) : wp 0 192 [l0, some (.ref x), l2, l3] st σ M Q = wp 0 193 [l0, some (.ref x), l2, l3] (.ref x :: st) σ M Q := x_aload_n (pc := 192) (npc := 193) (a := 0) (b := 0) (d := 0) (w := 0) (sw := []) (cv := .null) lst_0 rfl [l0, some (.ref x), l2, l3] x rfl st σ M Q
set_option maxRecDepth 20000 in
theorem k0_193 (l1 l2 l3 : Option Value) (x : Nat) (st : List Value) (σ : Sg) (M : Mem) (Q : Po) : wp 0 193 [some (.ref x), l1, l2, l3] st σ M Q = wp 0 194 [some (.ref x), l1, l2, l3] (.ref x :: st) σ M Q := x_aload_n (pc := 193) (npc := 194) (a := 0) (b := 0) (d := 0) (w := 0) (sw := []) (cv := .null) lst_0 rfl [some (.ref x), l1, l2, l3] x rfl st σ M Q
set_option maxRecDepth 20000 in
theorem k0_194 (l0 l1 l2 : Option Value) (x : Int32) (st : List Value) (σ : Sg) (M : Mem) (Q : Po) : wp 0 194 [l0, l1, l2, some (.int x)] st σ M Q = wp 0 195 [l0, l1, l2, some (.int x)] (.int x :: st) σ M Q := x_iload_n (pc := 194) (npc := 195) (a := 0) (b := 0) (d := 0) (w := 0) (sw := []) (cv := .null) lst_0 rfl [l0, l1, l2, some (.int x)] x rfl st σ M Q
set_option maxRecDepth 20000 in
theorem k0_195 (ls : Lcl) (st : List Value) (σ : Sg) (M : Mem) (Q : Po) : wp 0 195 ls st σ M Q = wp 0 196 ls (.int (nI 1) :: st) σ M Q := x_iconst (pc := 195) (npc := 196) (a := 0) (b := 0) (d := 0) (w := 0) (sw := []) (cv := .int (nI 1)) lst_0 rfl ls st σ M Q
set_option maxRecDepth 20000 in
theorem k0_196 (ls : Lcl) (x y : Int32) (st : List Value) (σ : Sg) (M : Mem) (Q : Po) : wp 0 196 ls (.int y :: .int x :: st) σ M Q = wp 0 197 ls (.int (x + y) :: st) σ M Q := x_iadd (pc := 196) (npc := 197) (a := 0) (b := 0) (d := 0) (w := 0) (sw := []) (cv := .null) lst_0 rfl ls x y st σ M Q
set_option maxRecDepth 20000 in
theorem k0_197 {σ : Sg} (ls : Lcl) (o j : Nat) (h : isI (sT σ o) = true) (hj : j < sL σ o) (hn : sL σ o < 1000000) (st : List Value) (M : Mem) (Q : Po) : wp 0 197 ls (.int (nI j) :: .ref o :: st) σ M Q = wp 0 198 ls (.int (M o j) :: st) σ M Q := x_iaload (pc := 197) (npc := 198) (a := 0) (b := 0) (d := 0) (w := 0) (sw := []) (cv := .null) lst_0 rfl ls o j h hj hn st Q
set_option maxRecDepth 20000 in
theorem k0_198 (l1 l2 l3 : Option Value) (x : Nat) (st : List Value) (σ : Sg) (M : Mem) (Q : Po) : wp 0 198 [some (.ref x), l1, l2, l3] st σ M Q = wp 0 199 [some (.ref x), l1, l2, l3] (.ref x :: st) σ M Q := x_aload_n (pc := 198) (npc := 199) (a := 0) (b := 0) (d := 0) (w := 0) (sw := []) (cv := .null) lst_0 rfl [some (.ref x), l1, l2, l3] x rfl st σ M Q
set_option maxRecDepth 20000 in
theorem k0_199 (l0 l1 l2 : Option Value) (x : Int32) (st : List Value) (σ : Sg) (M : Mem) (Q : Po) : wp 0 199 [l0, l1, l2, some (.int x)] st σ M Q = wp 0 200 [l0, l1, l2, some (.int x)] (.int x :: st) σ M Q := x_iload_n (pc := 199) (npc := 200) (a := 0) (b := 0) (d := 0) (w := 0) (sw := []) (cv := .null) lst_0 rfl [l0, l1, l2, some (.int x)] x rfl st σ M Q
set_option maxRecDepth 20000 in
theorem k0_200 (ls : Lcl) (st : List Value) (σ : Sg) (M : Mem) (Q : Po) : wp 0 200 ls st σ M Q = wp 0 201 ls (.int (nI 2) :: st) σ M Q := x_iconst (pc := 200) (npc := 201) (a := 0) (b := 0) (d := 0) (w := 0) (sw := []) (cv := .int (nI 2)) lst_0 rfl ls st σ M Q
set_option maxRecDepth 20000 in
theorem k0_201 (ls : Lcl) (x y : Int32) (st : List Value) (σ : Sg) (M : Mem) (Q : Po) : wp 0 201 ls (.int y :: .int x :: st) σ M Q = wp 0 202 ls (.int (x + y) :: st) σ M Q := x_iadd (pc := 201) (npc := 202) (a := 0) (b := 0) (d := 0) (w := 0) (sw := []) (cv := .null) lst_0 rfl ls x y st σ M Q
set_option maxRecDepth 20000 in
theorem k0_202 {σ : Sg} (ls : Lcl) (o j : Nat) (h : isI (sT σ o) = true) (hj : j < sL σ o) (hn : sL σ o < 1000000) (st : List Value) (M : Mem) (Q : Po) : wp 0 202 ls (.int (nI j) :: .ref o :: st) σ M Q = wp 0 203 ls (.int (M o j) :: st) σ M Q := x_iaload (pc := 202) (npc := 203) (a := 0) (b := 0) (d := 0) (w := 0) (sw := []) (cv := .null) lst_0 rfl ls o j h hj hn st Q
set_option maxRecDepth 20000 in
theorem k0_203 (ls : Lcl) (x : Int32) (st : List Value) (σ : Sg) (M : Mem) (Q : Po) : wp 0 203 ls (.int x :: st) σ M Q = if x = 0 then wp 0 210 ls st σ M Q else wp 0 206 ls st σ M Q := x_if_eq (pc := 203) (npc := 206) (a := 210) (b := 0) (d := 0) (w := 0) (sw := []) (cv := .null) lst_0 rfl ls x st σ M Q
set_option maxRecDepth 20000 in
theorem k0_206 (ls : Lcl) (st : List Value) (σ : Sg) (M : Mem) (Q : Po) : wp 0 206 ls st σ M Q = wp 0 207 ls (.int (nI 1) :: st) σ M Q := x_iconst (pc := 206) (npc := 207) (a := 0) (b := 0) (d := 0) (w := 0) (sw := []) (cv := .int (nI 1)) lst_0 rfl ls st σ M Q
set_option maxRecDepth 20000 in
theorem k0_207 (ls : Lcl) (st : List Value) (σ : Sg) (M : Mem) (Q : Po) : wp 0 207 ls st σ M Q = wp 0 211 ls st σ M Q := x_goto (pc := 207) (npc := 210) (a := 211) (b := 0) (d := 0) (w := 0) (sw := []) (cv := .null) lst_0 rfl ls st σ M Q
set_option maxRecDepth 20000 in
theorem k0_210 (ls : Lcl) (st : List Value) (σ : Sg) (M : Mem) (Q : Po) : wp 0 210 ls st σ M Q = wp 0 211 ls (.int (nI 0) :: st) σ M Q := x_iconst (pc := 210) (npc := 211) (a := 0) (b := 0) (d := 0) (w := 0) (sw := []) (cv := .int (nI 0)) lst_0 rfl ls st σ M Q
set_option maxRecDepth 20000 in
theorem k0_211 {σ : Sg} (ls : Lcl) (o : Nat) (a0 : Int32) (a1 : Int32) (st : List Value) (h4 : le4 st = true) (h : sT σ o = 16) (M : Mem) (Q : Po) : wp 0 211 ls (.int a1 :: .int a0 :: .ref o :: st) σ M Q = wp 4 0 [some (.ref o), some (.int a0), some (.int a1)] [] σ M (fun r σ1 M1 => wp 0 214 ls (pushR r st) σ1 M1 Q) := x_callV (pc := 211) (npc := 214) (a := 4) (b := 0) (d := 16) (w := 347) (sw := []) (cv := .retAddr 3) lst_0 rfl ls (.int a1 :: .int a0 :: .ref o :: st) rfl h4 rfl σ h M Q
set_option maxRecDepth 20000 in
theorem k0_214 (l0 l1 l3 : Option Value) (x : Nat) (st : List Value) (σ : Sg) (M : Mem) (Q : Po) : wp 0 214 [l0, l1, some (.ref x), l3] st σ M Q = wp 0 215 [l0, l1, some (.ref x), l3] (.ref x :: st) σ M Q := x_aload_n (pc := 214) (npc := 215) (a := 0) (b := 0) (d := 0) (w := 0) (sw := []) (cv := .null) lst_0 rfl [l0, l1, some (.ref x), l3] x rfl st σ M Q
set_option maxRecDepth 20000 in
theorem k0_215 (l1 l2 l3 : Option Value) (x : Nat) (st : List Value) (σ : Sg) (M : Mem) (Q : Po) : wp 0 215 [some (.ref x), l1, l2, l3] st σ M Q = wp 0 216 [some (.ref x), l1, l2, l3] (.ref x :: st) σ M Q := x_aload_n (pc := 215) (npc := 216) (a := 0) (b := 0) (d := 0) (w := 0) (sw := []) (cv := .null) lst_0 rfl [some (.ref x), l1, l2, l3] x rfl st σ M Q
set_option maxRecDepth 20000 in
theorem k0_216 (l0 l1 l2 : Option Value) (x : Int32) (st : List Value) (σ : Sg) (M : Mem) (Q : Po) : wp 0 216 [l0, l1, l2, some (.int x)] st σ M Q = wp 0 217 [l0, l1, l2, some (.int x)] (.int x :: st) σ M Q := x_iload_n (pc := 216) (npc := 217) (a := 0) (b := 0) (d := 0) (w := 0) (sw := []) (cv := .null) lst_0 rfl [l0, l1, l2, some (.int x)] x rfl st σ M Q
set_option maxRecDepth 20000 in
theorem k0_217 (ls : Lcl) (st : List Value) (σ : Sg) (M : Mem) (Q : Po) : wp 0 217 ls st σ M Q = wp 0 218 ls (.int (nI 1) :: st) σ M Q := x_iconst (pc := 217) (npc := 218) (a := 0) (b := 0) (d := 0) (w := 0) (sw := []) (cv := .int (nI 1)) lst_0 rfl ls st σ M Q
set_option maxRecDepth 20000 in
theorem k0_218 (ls : Lcl) (x y : Int32) (st : List Value) (σ : Sg) (M : Mem) (Q : Po) : wp 0 218 ls (.int y :: .int x :: st) σ M Q = wp 0 219 ls (.int (x + y) :: st) σ M Q := x_iadd (pc := 218) (npc := 219) (a := 0) (b := 0) (d := 0) (w := 0) (sw := []) (cv := .null) lst_0 rfl ls x y st σ M Q
set_option maxRecDepth 20000 in
theorem k0_219 {σ : Sg} (ls : Lcl) (o j : Nat) (h : isI (sT σ o) = true) (hj : j < sL σ o) (hn : sL σ o < 1000000) (st : List Value) (M : Mem) (Q : Po) : wp 0 219 ls (.int (nI j) :: .ref o :: st) σ M Q = wp 0 220 ls (.int (M o j) :: st) σ M Q := x_iaload (pc := 219) (npc := 220) (a := 0) (b := 0) (d := 0) (w := 0) (sw := []) (cv := .null) lst_0 rfl ls o j h hj hn st Q
set_option maxRecDepth 20000 in
theorem k0_220 (l1 l2 l3 : Option Value) (x : Nat) (st : List Value) (σ : Sg) (M : Mem) (Q : Po) : wp 0 220 [some (.ref x), l1, l2, l3] st σ M Q = wp 0 221 [some (.ref x), l1, l2, l3] (.ref x :: st) σ M Q := x_aload_n (pc := 220) (npc := 221) (a := 0) (b := 0) (d := 0) (w := 0) (sw := []) (cv := .null) lst_0 rfl [some (.ref x), l1, l2, l3] x rfl st σ M Q
set_option maxRecDepth 20000 in
theorem k0_221 (l0 l1 l2 : Option Value) (x : Int32) (st : List Value) (σ : Sg) (M : Mem) (Q : Po) : wp 0 221 [l0, l1, l2, some (.int x)] st σ M Q = wp 0 222 [l0, l1, l2, some (.int x)] (.int x :: st) σ M Q := x_iload_n (pc := 221) (npc := 222) (a := 0) (b := 0) (d := 0) (w := 0) (sw := []) (cv := .null) lst_0 rfl [l0, l1, l2, some (.int x)] x rfl st σ M Q
set_option maxRecDepth 20000 in
theorem k0_222 (ls : Lcl) (st : List Value) (σ : Sg) (M : Mem) (Q : Po) : wp 0 222 ls st σ M Q = wp 0 223 ls (.int (nI 2) :: st) σ M Q := x_iconst (pc := 222) (npc := 223) (a := 0) (b := 0) (d := 0) (w := 0) (sw := []) (cv := .int (nI 2)) lst_0 rfl ls st σ M Q
set_option maxRecDepth 20000 in
theorem k0_223 (ls : Lcl) (x y : Int32) (st : List Value) (σ : Sg) (M : Mem) (Q : Po) : wp 0 223 ls (.int y :: .int x :: st) σ M Q = wp 0 224 ls (.int (x + y) :: st) σ M Q := x_iadd (pc := 223) (npc := 224) (a := 0) (b := 0) (d := 0) (w := 0) (sw := []) (cv := .null) lst_0 rfl ls x y st σ M Q
set_option maxRecDepth 20000 in
theorem k0_224 {σ : Sg} (ls : Lcl) (o j : Nat) (h : isI (sT σ o) = true) (hj : j < sL σ o) (hn : sL σ o < 1000000) (st : List Value) (M : Mem) (Q : Po) : wp 0 224 ls (.int (nI j) :: .ref o :: st) σ M Q = wp 0 225 ls (.int (M o j) :: st) σ M Q := x_iaload (pc := 224) (npc := 225) (a := 0) (b := 0) (d := 0) (w := 0) (sw := []) (cv := .null) lst_0 rfl ls o j h hj hn st Q
set_option maxRecDepth 20000 in
theorem k0_225 (ls : Lcl) (x : Int32) (st : List Value) (σ : Sg) (M : Mem) (Q : Po) : wp 0 225 ls (.int x :: st) σ M Q = if x = 0 then wp 0 232 ls st σ M Q else wp 0 228 ls st σ M Q := x_if_eq (pc := 225) (npc := 228) (a := 232) (b := 0) (d := 0) (w := 0) (sw := []) (cv := .null) lst_0 rfl ls x st σ M Q
set_option maxRecDepth 20000 in
theorem k0_228 (ls : Lcl) (st : List Value) (σ : Sg) (M : Mem) (Q : Po) : wp 0 228 ls st σ M Q = wp 0 229 ls (.int (nI 1) :: st) σ M Q := x_iconst (pc := 228) (npc := 229) (a := 0) (b := 0) (d := 0) (w := 0) (sw := []) (cv := .int (nI 1)) lst_0 rfl ls st σ M Q
set_option maxRecDepth 20000 in
theorem k0_229 (ls : Lcl) (st : List Value) (σ : Sg) (M : Mem) (Q : Po) : wp 0 229 ls st σ M Q = wp 0 233 ls st σ M Q := x_goto (pc := 229) (npc := 232) (a := 233) (b := 0) (d := 0) (w := 0) (sw := []) (cv := .null) lst_0 rfl ls st σ M Q
set_option maxRecDepth 20000 in
theorem k0_232 (ls : Lcl) (st : List Value) (σ : Sg) (M : Mem) (Q : Po) : wp 0 232 ls st σ M Q = wp 0 233 ls (.int (nI 0) :: st) σ M Q := x_iconst (pc := 232) (npc := 233) (a := 0) (b := 0) (d := 0) (w := 0) (sw := []) (cv := .int (nI 0)) lst_0 rfl ls st σ M Q
set_option maxRecDepth 20000 in
theorem k0_233 {σ : Sg} (ls : Lcl) (o : Nat) (a0 : Int32) (a1 : Int32) (st : List Value) (h4 : le4 st = true) (h : sT σ o = 17) (M : Mem) (Q : Po) : wp 0 233 ls (.int a1 :: .int a0 :: .ref o :: st) σ M Q = wp 128 0 [some (.ref o), some (.int a0), some (.int a1)] [] σ M (fun r σ1 M1 => wp 0 236 ls (pushR r st) σ1 M1 Q) := x_callV (pc := 233) (npc := 236) (a := 128) (b := 0) (d := 17) (w := 814) (sw := []) (cv := .retAddr 3) lst_0 rfl ls (.int a1 :: .int a0 :: .ref o :: st) rfl h4 rfl σ h M Q
set_option maxRecDepth 20000 in
theorem k0_236 (ls : Lcl) (x y : Int32) (st : List Value) (σ : Sg) (M : Mem) (Q : Po) : wp 0 236 ls (.int y :: .int x :: st) σ M Q = if x = y then wp 0 678 ls st σ M Q else wp 0 239 ls st σ M Q := x_icmp_eq (pc := 236) (npc := 239) (a := 678) (b := 0) (d := 0) (w := 0) (sw := []) (cv := .null) lst_0 rfl ls x y st σ M Q
set_option maxRecDepth 20000 in
theorem k0_239 (ls : Lcl) (st : List Value) (σ : Sg) (M : Mem) (Q : Po) : wp 0 239 ls st σ M Q = wp 0 240 ls (.int (nI 0) :: st) σ M Q := x_iconst (pc := 239) (npc := 240) (a := 0) (b := 0) (d := 0) (w := 0) (sw := []) (cv := .int (nI 0)) lst_0 rfl ls st σ M Q
set_option maxRecDepth 20000 in
theorem k0_240 (ls : Lcl) (x : Int32) (h : okR (.int (nI 1)) x = true) (σ : Sg) (M : Mem) (Q : Po) : wp 0 240 ls [.int x] σ M Q = Q (some (.int x)) σ M := x_ireturn (pc := 240) (npc := 241) (a := 0) (b := 0) (d := 0) (w := 0) (sw := []) (cv := .int (nI 1)) lst_0 rfl ls x h σ M Q
set_option maxRecDepth 20000 in
theorem k0_241 (l0 l2 l3 : Option Value) (x : Nat) (st : List Value) (σ : Sg) (M : Mem) (Q : Po) : wp 0 241 [l0, some (.ref x), l2, l3] st σ M Q = wp 0 242 [l0, some (.ref x), l2, l3] (.ref x :: st) σ M Q := x_aload_n (pc := 241) (npc := 242) (a := 0) (b := 0) (d := 0) (w := 0) (sw := []) (cv := .null) lst_0 rfl [l0, some (.ref x), l2, l3] x rfl st σ M Q
set_option maxRecDepth 20000 in
theorem k0_242 (l1 l2 l3 : Option Value) (x : Nat) (st : List Value) (σ : Sg) (M : Mem) (Q : Po) : wp 0 242 [some (.ref x), l1, l2, l3] st σ M Q = wp 0 243 [some (.ref x), l1, l2, l3] (.ref x :: st) σ M Q := x_aload_n (pc := 242) (npc := 243) (a := 0) (b := 0) (d := 0) (w := 0) (sw := []) (cv := .null) lst_0 rfl [some (.ref x), l1, l2, l3] x rfl st σ M Q
set_option maxRecDepth 20000 in
theorem k0_243 (l0 l1 l2 : Option Value) (x : Int32) (st : List Value) (σ : Sg) (M : Mem) (Q : Po) : wp 0 243 [l0, l1, l2, some (.int x)] st σ M Q = wp 0 244 [l0, l1, l2, some (.int x)] (.int x :: st) σ M Q := x_iload_n (pc := 243) (npc := 244) (a := 0) (b := 0) (d := 0) (w := 0) (sw := []) (cv := .null) lst_0 rfl [l0, l1, l2, some (.int x)] x rfl st σ M Q
set_option maxRecDepth 20000 in
theorem k0_244 (ls : Lcl) (st : List Value) (σ : Sg) (M : Mem) (Q : Po) : wp 0 244 ls st σ M Q = wp 0 245 ls (.int (nI 1) :: st) σ M Q := x_iconst (pc := 244) (npc := 245) (a := 0) (b := 0) (d := 0) (w := 0) (sw := []) (cv := .int (nI 1)) lst_0 rfl ls st σ M Q
set_option maxRecDepth 20000 in
theorem k0_245 (ls : Lcl) (x y : Int32) (st : List Value) (σ : Sg) (M : Mem) (Q : Po) : wp 0 245 ls (.int y :: .int x :: st) σ M Q = wp 0 246 ls (.int (x + y) :: st) σ M Q := x_iadd (pc := 245) (npc := 246) (a := 0) (b := 0) (d := 0) (w := 0) (sw := []) (cv := .null) lst_0 rfl ls x y st σ M Q
set_option maxRecDepth 20000 in
theorem k0_246 {σ : Sg} (ls : Lcl) (o j : Nat) (h : isI (sT σ o) = true) (hj : j < sL σ o) (hn : sL σ o < 1000000) (st : List Value) (M : Mem) (Q : Po) : wp 0 246 ls (.int (nI j) :: .ref o :: st) σ M Q = wp 0 247 ls (.int (M o j) :: st) σ M Q := x_iaload (pc := 246) (npc := 247) (a := 0) (b := 0) (d := 0) (w := 0) (sw := []) (cv := .null) lst_0 rfl ls o j h hj hn st Q
set_option maxRecDepth 20000 in
theorem k0_247 {σ : Sg} (ls : Lcl) (o : Nat) (a0 : Int32) (st : List Value) (h4 : le4 st = true) (h : sT σ o = 16) (M : Mem) (Q : Po) : wp 0 247 ls (.int a0 :: .ref o :: st) σ M Q = wp 5 0 [some (.ref o), some (.int a0)] [] σ M (fun r σ1 M1 => wp 0 250 ls (pushR r st) σ1 M1 Q) := x_callV (pc := 247) (npc := 250) (a := 5) (b := 0) (d := 16) (w := 368) (sw := []) (cv := .retAddr 2) lst_0 rfl ls (.int a0 :: .ref o :: st) rfl h4 rfl σ h M Q
set_option maxRecDepth 20000 in
theorem k0_250 (l0 l1 l3 : Option Value) (x : Nat) (st : List Value) (σ : Sg) (M : Mem) (Q : Po) : wp 0 250 [l0, l1, some (.ref x), l3] st σ M Q = wp 0 251 [l0, l1, some (.ref x), l3] (.ref x :: st) σ M Q := x_aload_n (pc := 250) (npc := 251) (a := 0) (b := 0) (d := 0) (w := 0) (sw := []) (cv := .null) lst_0 rfl [l0, l1, some (.ref x), l3] x rfl st σ M Q
set_option maxRecDepth 20000 in
theorem k0_251 (l1 l2 l3 : Option Value) (x : Nat) (st : List Value) (σ : Sg) (M : Mem) (Q : Po) : wp 0 251 [some (.ref x), l1, l2, l3] st σ M Q = wp 0 252 [some (.ref x), l1, l2, l3] (.ref x :: st) σ M Q := x_aload_n (pc := 251) (npc := 252) (a := 0) (b := 0) (d := 0) (w := 0) (sw := []) (cv := .null) lst_0 rfl [some (.ref x), l1, l2, l3] x rfl st σ M Q
set_option maxRecDepth 20000 in
theorem k0_252 (l0 l1 l2 : Option Value) (x : Int32) (st : List Value) (σ : Sg) (M : Mem) (Q : Po) : wp 0 252 [l0, l1, l2, some (.int x)] st σ M Q = wp 0 253 [l0, l1, l2, some (.int x)] (.int x :: st) σ M Q := x_iload_n (pc := 252) (npc := 253) (a := 0) (b := 0) (d := 0) (w := 0) (sw := []) (cv := .null) lst_0 rfl [l0, l1, l2, some (.int x)] x rfl st σ M Q
set_option maxRecDepth 20000 in
theorem k0_253 (ls : Lcl) (st : List Value) (σ : Sg) (M : Mem) (Q : Po) : wp 0 253 ls st σ M Q = wp 0 254 ls (.int (nI 1) :: st) σ M Q := x_iconst (pc := 253) (npc := 254) (a := 0) (b := 0) (d := 0) (w := 0) (sw := []) (cv := .int (nI 1)) lst_0 rfl ls st σ M Q
set_option maxRecDepth 20000 in
theorem k0_254 (ls : Lcl) (x y : Int32) (st : List Value) (σ : Sg) (M : Mem) (Q : Po) : wp 0 254 ls (.int y :: .int x :: st) σ M Q = wp 0 255 ls (.int (x + y) :: st) σ M Q := x_iadd (pc := 254) (npc := 255) (a := 0) (b := 0) (d := 0) (w := 0) (sw := []) (cv := .null) lst_0 rfl ls x y st σ M Q
set_option maxRecDepth 20000 in
theorem k0_255 {σ : Sg} (ls : Lcl) (o j : Nat) (h : isI (sT σ o) = true) (hj : j < sL σ o) (hn : sL σ o < 1000000) (st : List Value) (M : Mem) (Q : Po) : wp 0 255 ls (.int (nI j) :: .ref o :: st) σ M Q = wp 0 256 ls (.int (M o j) :: st) σ M Q := x_iaload (pc := 255) (npc := 256) (a := 0) (b := 0) (d := 0) (w := 0) (sw := []) (cv := .null) lst_0 rfl ls o j h hj hn st Q
set_option maxRecDepth 20000 in
theorem k0_256 {σ : Sg} (ls : Lcl) (o : Nat) (a0 : Int32) (st : List Value) (h4 : le4 st = true) (h : sT σ o = 17) (M : Mem) (Q : Po) : wp 0 256 ls (.int a0 :: .ref o :: st) σ M Q = wp 129 0 [some (.ref o), some (.int a0)] [] σ M (fun r σ1 M1 => wp 0 259 ls (pushR r st) σ1 M1 Q) := x_callV (pc := 256) (npc := 259) (a := 129) (b := 0) (d := 17) (w := 839) (sw := []) (cv := .retAddr 2) lst_0 rfl ls (.int a0 :: .ref o :: st) rfl h4 rfl σ h M Q
set_option maxRecDepth 20000 in
theorem k0_259 (ls : Lcl) (x y : Int32) (st : List Value) (σ : Sg) (M : Mem) (Q : Po) : wp 0 259 ls (.int y :: .int x :: st) σ M Q = if x = y then wp 0 678 ls st σ M Q else wp 0 262 ls st σ M Q := x_icmp_eq (pc := 259) (npc := 262) (a := 678) (b := 0) (d := 0) (w := 0) (sw := []) (cv := .null) lst_0 rfl ls x y st σ M Q
set_option maxRecDepth 20000 in
theorem k0_262 (ls : Lcl) (st : List Value) (σ : Sg) (M : Mem) (Q : Po) : wp 0 262 ls st σ M Q = wp 0 263 ls (.int (nI 0) :: st) σ M Q := x_iconst (pc := 262) (npc := 263) (a := 0) (b := 0) (d := 0) (w := 0) (sw := []) (cv := .int (nI 0)) lst_0 rfl ls st σ M Q
set_option maxRecDepth 20000 in
theorem k0_263 (ls : Lcl) (x : Int32) (h : okR (.int (nI 1)) x = true) (σ : Sg) (M : Mem) (Q : Po) : wp 0 263 ls [.int x] σ M Q = Q (some (.int x)) σ M := x_ireturn (pc := 263) (npc := 264) (a := 0) (b := 0) (d := 0) (w := 0) (sw := []) (cv := .int (nI 1)) lst_0 rfl ls x h σ M Q
set_option maxRecDepth 20000 in
theorem k0_264 (l0 l2 l3 : Option Value) (x : Nat) (st : List Value) (σ : Sg) (M : Mem) (Q : Po) : wp 0 264 [l0, some (.ref x), l2, l3] st σ M Q = wp 0 265 [l0, some (.ref x), l2, l3] (.ref x :: st) σ M Q := x_aload_n (pc := 264) (npc := 265) (a := 0) (b := 0) (d := 0) (w := 0) (sw := []) (cv := .null) lst_0 rfl [l0, some (.ref x), l2, l3] x rfl st σ M Q
set_option maxRecDepth 20000 in
theorem k0_265 (l1 l2 l3 : Option Value) (x : Nat) (st : List Value) (σ : Sg) (M : Mem) (Q : Po) : wp 0 265 [some (.ref x), l1, l2, l3] st σ M Q = wp 0 266 [some (.ref x), l1, l2, l3] (.ref x :: st) σ M Q := x_aload_n (pc := 265) (npc := 266) (a := 0) (b := 0) (d := 0) (w := 0) (sw := []) (cv := .null) lst_0 rfl [some (.ref x), l1, l2, l3] x rfl st σ M Q
set_option maxRecDepth 20000 in
theorem k0_266 (l0 l1 l2 : Option Value) (x : Int32) (st : List Value) (σ : Sg) (M : Mem) (Q : Po) : wp 0 266 [l0, l1, l2, some (.int x)] st σ M Q = wp 0 267 [l0, l1, l2, some (.int x)] (.int x :: st) σ M Q := x_iload_n (pc := 266) (npc := 267) (a := 0) (b := 0) (d := 0) (w := 0) (sw := []) (cv := .null) lst_0 rfl [l0, l1, l2, some (.int x)] x rfl st σ M Q
set_option maxRecDepth 20000 in
theorem k0_267 (ls : Lcl) (st : List Value) (σ : Sg) (M : Mem) (Q : Po) : wp 0 267 ls st σ M Q = wp 0 268 ls (.int (nI 1) :: st) σ M Q := x_iconst (pc := 267) (npc := 268) (a := 0) (b := 0) (d := 0) (w := 0) (sw := []) (cv := .int (nI 1)) lst_0 rfl ls st σ M Q
set_option maxRecDepth 20000 in
theorem k0_268 (ls : Lcl) (x y : Int32) (st : List Value) (σ : Sg) (M : Mem) (Q : Po) : wp 0 268 ls (.int y :: .int x :: st) σ M Q = wp 0 269 ls (.int (x + y) :: st) σ M Q := x_iadd (pc := 268) (npc := 269) (a := 0) (b := 0) (d := 0) (w := 0) (sw := []) (cv := .null) lst_0 rfl ls x y st σ M Q
set_option maxRecDepth 20000 in
theorem k0_269 {σ : Sg} (ls : Lcl) (o j : Nat) (h : isI (sT σ o) = true) (hj : j < sL σ o) (hn : sL σ o < 1000000) (st : List Value) (M : Mem) (Q : Po) : wp 0 269 ls (.int (nI j) :: .ref o :: st) σ M Q = wp 0 270 ls (.int (M o j) :: st) σ M Q := x_iaload (pc := 269) (npc := 270) (a := 0) (b := 0) (d := 0) (w := 0) (sw := []) (cv := .null) lst_0 rfl ls o j h hj hn st Q
set_option maxRecDepth 20000 in
theorem k0_270 {σ : Sg} (ls : Lcl) (o : Nat) (a0 : Int32) (st : List Value) (h4 : le4 st = true) (h : sT σ o = 16) (M : Mem) (Q : Po) : wp 0 270 ls (.int a0 :: .ref o :: st) σ M Q = wp 6 0 [some (.ref o), some (.int a0)] [] σ M (fun r σ1 M1 => wp 0 273 ls (pushR r st) σ1 M1 Q) := x_callV (pc := 270) (npc := 273) (a := 6) (b := 0) (d := 16) (w := 380) (sw := []) (cv := .retAddr 2) lst_0 rfl ls (.int a0 :: .ref o :: st) rfl h4 rfl σ h M Q
set_option maxRecDepth 20000 in
theorem k0_273 (l0 l1 l3 : Option Value) (x : Nat) (st : List Value) (σ : Sg) (M : Mem) (Q : Po) : wp 0 273 [l0, l1, some (.ref x), l3] st σ M Q = wp 0 274 [l0, l1, some (.ref x), l3] (.ref x :: st) σ M Q := x_aload_n (pc := 273) (npc := 274) (a := 0) (b := 0) (d := 0) (w := 0) (sw := []) (cv := .null) lst_0 rfl [l0, l1, some (.ref x), l3] x rfl st σ M Q
set_option maxRecDepth 20000 in
theorem k0_274 (l1 l2 l3 : Option Value) (x : Nat) (st : List Value) (σ : Sg) (M : Mem) (Q : Po) : wp 0 274 [some (.ref x), l1, l2, l3] st σ M Q = wp 0 275 [some (.ref x), l1, l2, l3] (.ref x :: st) σ M Q := x_aload_n (pc := 274) (npc := 275) (a := 0) (b := 0) (d := 0) (w := 0) (sw := []) (cv := .null) lst_0 rfl [some (.ref x), l1, l2, l3] x rfl st σ M Q
set_option maxRecDepth 20000 in
theorem k0_275 (l0 l1 l2 : Option Value) (x : Int32) (st : List Value) (σ : Sg) (M : Mem) (Q : Po) : wp 0 275 [l0, l1, l2, some (.int x)] st σ M Q = wp 0 276 [l0, l1, l2, some (.int x)] (.int x :: st) σ M Q := x_iload_n (pc := 275) (npc := 276) (a := 0) (b := 0) (d := 0) (w := 0) (sw := []) (cv := .null) lst_0 rfl [l0, l1, l2, some (.int x)] x rfl st σ M Q
set_option maxRecDepth 20000 in
theorem k0_276 (ls : Lcl) (st : List Value) (σ : Sg) (M : Mem) (Q : Po) : wp 0 276 ls st σ M Q = wp 0 277 ls (.int (nI 1) :: st) σ M Q := x_iconst (pc := 276) (npc := 277) (a := 0) (b := 0) (d := 0) (w := 0) (sw := []) (cv := .int (nI 1)) lst_0 rfl ls st σ M Q
set_option maxRecDepth 20000 in
theorem k0_277 (ls : Lcl) (x y : Int32) (st : List Value) (σ : Sg) (M : Mem) (Q : Po) : wp 0 277 ls (.int y :: .int x :: st) σ M Q = wp 0 278 ls (.int (x + y) :: st) σ M Q := x_iadd (pc := 277) (npc := 278) (a := 0) (b := 0) (d := 0) (w := 0) (sw := []) (cv := .null) lst_0 rfl ls x y st σ M Q
set_option maxRecDepth 20000 in
theorem k0_278 {σ : Sg} (ls : Lcl) (o j : Nat) (h : isI (sT σ o) = true) (hj : j < sL σ o) (hn : sL σ o < 1000000) (st : List Value) (M : Mem) (Q : Po) : wp 0 278 ls (.int (nI j) :: .ref o :: st) σ M Q = wp 0 279 ls (.int (M o j) :: st) σ M Q := x_iaload (pc := 278) (npc := 279) (a := 0) (b := 0) (d := 0) (w := 0) (sw := []) (cv := .null) lst_0 rfl ls o j h hj hn st Q
set_option maxRecDepth 20000 in
theorem k0_279 {σ : Sg} (ls : Lcl) (o : Nat) (a0 : Int32) (st : List Value) (h4 : le4 st = true) (h : sT σ o = 17) (M : Mem) (Q : Po) : wp 0 279 ls (.int a0 :: .ref o :: st) σ M Q = wp 130 0 [some (.ref o), some (.int a0)] [] σ M (fun r σ1 M1 => wp 0 282 ls (pushR r st) σ1 M1 Q) := x_callV (pc := 279) (npc := 282) (a := 130) (b := 0) (d := 17) (w := 847) (sw := []) (cv := .retAddr 2) lst_0 rfl ls (.int a0 :: .ref o :: st) rfl h4 rfl σ h M Q
set_option maxRecDepth 20000 in
theorem k0_282 (ls : Lcl) (x y : Int32) (st : List Value) (σ : Sg) (M : Mem) (Q : Po) : wp 0 282 ls (.int y :: .int x :: st) σ M Q = if x = y then wp 0 678 ls st σ M Q else wp 0 285 ls st σ M Q := x_icmp_eq (pc := 282) (npc := 285) (a := 678) (b := 0) (d := 0) (w := 0) (sw := []) (cv := .null) lst_0 rfl ls x y st σ M Q
set_option maxRecDepth 20000 in
theorem k0_285 (ls : Lcl) (st : List Value) (σ : Sg) (M : Mem) (Q : Po) : wp 0 285 ls st σ M Q = wp 0 286 ls (.int (nI 0) :: st) σ M Q := x_iconst (pc := 285) (npc := 286) (a := 0) (b := 0) (d := 0) (w := 0) (sw := []) (cv := .int (nI 0)) lst_0 rfl ls st σ M Q
set_option maxRecDepth 20000 in
theorem k0_286 (ls : Lcl) (x : Int32) (h : okR (.int (nI 1)) x = true) (σ : Sg) (M : Mem) (Q : Po) : wp 0 286 ls [.int x] σ M Q = Q (some (.int x)) σ M := x_ireturn (pc := 286) (npc := 287) (a := 0) (b := 0) (d := 0) (w := 0) (sw := []) (cv := .int (nI 1)) lst_0 rfl ls x h σ M Q
set_option maxRecDepth 20000 in
theorem k0_287 (l0 l2 l3 : Option Value) (x : Nat) (st : List Value) (σ : Sg) (M : Mem) (Q : Po) : wp 0 287 [l0, some (.ref x), l2, l3] st σ M Q = wp 0 288 [l0, some (.ref x), l2, l3] (.ref x :: st) σ M Q := x_aload_n (pc := 287) (npc := 288) (a := 0) (b := 0) (d := 0) (w := 0) (sw := []) (cv := .null) lst_0 rfl [l0, some (.ref x), l2, l3] x rfl st σ M Q
set_option maxRecDepth 20000 in
theorem k0_288 {σ : Sg} (ls : Lcl) (o : Nat) (st : List Value) (h4 : le4 st = true) (h : sT σ o = 16) (M : Mem) (Q : Po) : wp 0 288 ls (.ref o :: st) σ M Q = wp 7 0 [some (.ref o)] [] σ M (fun r σ1 M1 => wp 0 291 ls (pushR r st) σ1 M1 Q) := x_callV (pc := 288) (npc := 291) (a := 7) (b := 0) (d := 16) (w := 491) (sw := []) (cv := .retAddr 1) lst_0 rfl ls (.ref o :: st) rfl h4 rfl σ h M Q
set_option maxRecDepth 20000 in
theorem k0_291 (l0 l1 l3 : Option Value) (x : Nat) (st : List Value) (σ : Sg) (M : Mem) (Q : Po) : wp 0 291 [l0, l1, some (.ref x), l3] st σ M Q = wp 0 292 [l0, l1, some (.ref x), l3] (.ref x :: st) σ M Q := x_aload_n (pc := 291) (npc := 292) (a := 0) (b := 0) (d := 0) (w := 0) (sw := []) (cv := .null) lst_0 rfl [l0, l1, some (.ref x), l3] x rfl st σ M Q
set_option maxRecDepth 20000 in
theorem k0_292 {σ : Sg} (ls : Lcl) (o : Nat) (st : List Value) (h4 : le4 st = true) (h : sT σ o = 17) (M : Mem) (Q : Po) : wp 0 292 ls (.ref o :: st) σ M Q = wp 131 0 [some (.ref o), none, none] [] σ M (fun r σ1 M1 => wp 0 295 ls (pushR r st) σ1 M1 Q) := x_callV (pc := 292) (npc := 295) (a := 131) (b := 2) (d := 17) (w := 901) (sw := []) (cv := .retAddr 1) lst_0 rfl ls (.ref o :: st) rfl h4 rfl σ h M Q
set_option maxRecDepth 20000 in
theorem k0_295 (ls : Lcl) (x y : Int32) (st : List Value) (σ : Sg) (M : Mem) (Q : Po) : wp 0 295 ls (.int y :: .int x :: st) σ M Q = if x = y then wp 0 678 ls st σ M Q else wp 0 298 ls st σ M Q := x_icmp_eq (pc := 295) (npc := 298) (a := 678) (b := 0) (d := 0) (w := 0) (sw := []) (cv := .null) lst_0 rfl ls x y st σ M Q
set_option maxRecDepth 20000 in
theorem k0_298 (ls : Lcl) (st : List Value) (σ : Sg) (M : Mem) (Q : Po) : wp 0 298 ls st σ M Q = wp 0 299 ls (.int (nI 0) :: st) σ M Q := x_iconst (pc := 298) (npc := 299) (a := 0) (b := 0) (d := 0) (w := 0) (sw := []) (cv := .int (nI 0)) lst_0 rfl ls st σ M Q
set_option maxRecDepth 20000 in
theorem k0_299 (ls : Lcl) (x : Int32) (h : okR (.int (nI 1)) x = true) (σ : Sg) (M : Mem) (Q : Po) : wp 0 299 ls [.int x] σ M Q = Q (some (.int x)) σ M := x_ireturn (pc := 299) (npc := 300) (a := 0) (b := 0) (d := 0) (w := 0) (sw := []) (cv := .int (nI 1)) lst_0 rfl ls x h σ M Q
set_option maxRecDepth 20000 in
theorem k0_300 (l0 l2 l3 : Option Value) (x : Nat) (st : List Value) (σ : Sg) (M : Mem) (Q : Po) : wp 0 300 [l0, some (.ref x), l2, l3] st σ M Q = wp 0 301 [l0, some (.ref x), l2, l3] (.ref x :: st) σ M Q := x_aload_n (pc := 300) (npc := 301) (a := 0) (b := 0) (d := 0) (w := 0) (sw := []) (cv := .null) lst_0 rfl [l0, some (.ref x), l2, l3] x rfl st σ M Q
set_option maxRecDepth 20000 in
theorem k0_301 (l1 l2 l3 : Option Value) (x : Nat) (st : List Value) (σ : Sg) (M : Mem) (Q : Po) : wp 0 301 [some (.ref x), l1, l2, l3] st σ M Q = wp 0 302 [some (.ref x), l1, l2, l3] (.ref x :: st) σ M Q := x_aload_n (pc := 301) (npc := 302) (a := 0) (b := 0) (d := 0) (w := 0) (sw := []) (cv := .null) lst_0 rfl [some (.ref x), l1, l2, l3] x rfl st σ M Q
set_option maxRecDepth 20000 in
theorem k0_302 (l0 l1 l2 : Option Value) (x : Int32) (st : List Value) (σ : Sg) (M : Mem) (Q : Po) : wp 0 302 [l0, l1, l2, some (.int x)] st σ M Q = wp 0 303 [l0, l1, l2, some (.int x)] (.int x :: st) σ M Q := x_iload_n (pc := 302) (npc := 303) (a := 0) (b := 0) (d := 0) (w := 0) (sw := []) (cv := .null) lst_0 rfl [l0, l1, l2, some (.int x)] x rfl st σ M Q
set_option maxRecDepth 20000 in
theorem k0_303 (ls : Lcl) (st : List Value) (σ : Sg) (M : Mem) (Q : Po) : wp 0 303 ls st σ M Q = wp 0 304 ls (.int (nI 1) :: st) σ M Q := x_iconst (pc := 303) (npc := 304) (a := 0) (b := 0) (d := 0) (w := 0) (sw := []) (cv := .int (nI 1)) lst_0 rfl ls st σ M Q
set_option maxRecDepth 20000 in
theorem k0_304 (ls : Lcl) (x y : Int32) (st : List Value) (σ : Sg) (M : Mem) (Q : Po) : wp 0 304 ls (.int y :: .int x :: st) σ M Q = wp 0 305 ls (.int (x + y) :: st) σ M Q := x_iadd (pc := 304) (npc := 305) (a := 0) (b := 0) (d := 0) (w := 0) (sw := []) (cv := .null) lst_0 rfl ls x y st σ M Q
set_option maxRecDepth 20000 in
theorem k0_305 {σ : Sg} (ls : Lcl) (o j : Nat) (h : isI (sT σ o) = true) (hj : j < sL σ o) (hn : sL σ o < 1000000) (st : List Value) (M : Mem) (Q : Po) : wp 0 305 ls (.int (nI j) :: .ref o :: st) σ M Q = wp 0 306 ls (.int (M o j) :: st) σ M Q := x_iaload (pc := 305) (npc := 306) (a := 0) (b := 0) (d := 0) (w := 0) (sw := []) (cv := .null) lst_0 rfl ls o j h hj hn st Q
set_option maxRecDepth 20000 in
theorem k0_306 (l1 l2 l3 : Option Value) (x : Nat) (st : List Value) (σ : Sg) (M : Mem) (Q : Po) : wp 0 306 [some (.ref x), l1, l2, l3] st σ M Q = wp 0 307 [some (.ref x), l1, l2, l3] (.ref x :: st) σ M Q := x_aload_n (pc := 306) (npc := 307) (a := 0) (b := 0) (d := 0) (w := 0) (sw := []) (cv := .null) lst_0 rfl [some (.ref x), l1, l2, l3] x rfl st σ M Q
set_option maxRecDepth 20000 in
theorem k0_307 (l0 l1 l2 : Option Value) (x : Int32) (st : List Value) (σ : Sg) (M : Mem) (Q : Po) : wp 0 307 [l0, l1, l2, some (.int x)] st σ M Q = wp 0 308 [l0, l1, l2, some (.int x)] (.int x :: st) σ M Q := x_iload_n (pc := 307) (npc := 308) (a := 0) (b := 0) (d := 0) (w := 0) (sw := []) (cv := .null) lst_0 rfl [l0, l1, l2, some (.int x)] x rfl st σ M Q
set_option maxRecDepth 20000 in
theorem k0_308 (ls : Lcl) (st : List Value) (σ : Sg) (M : Mem) (Q : Po) : wp 0 308 ls st σ M Q = wp 0 309 ls (.int (nI 2) :: st) σ M Q := x_iconst (pc := 308) (npc := 309) (a := 0) (b := 0) (d := 0) (w := 0) (sw := []) (cv := .int (nI 2)) lst_0 rfl ls st σ M Q
set_option maxRecDepth 20000 in
theorem k0_309 (ls : Lcl) (x y : Int32) (st : List Value) (σ : Sg) (M : Mem) (Q : Po) : wp 0 309 ls (.int y :: .int x :: st) σ M Q = wp 0 310 ls (.int (x + y) :: st) σ M Q := x_iadd (pc := 309) (npc := 310) (a := 0) (b := 0) (d := 0) (w := 0) (sw := []) (cv := .null) lst_0 rfl ls x y st σ M Q
set_option maxRecDepth 20000 in
theorem k0_310 {σ : Sg} (ls : Lcl) (o j : Nat) (h : isI (sT σ o) = true) (hj : j < sL σ o) (hn : sL σ o < 1000000) (st : List Value) (M : Mem) (Q : Po) : wp 0 310 ls (.int (nI j) :: .ref o :: st) σ M Q = wp 0 311 ls (.int (M o j) :: st) σ M Q := x_iaload (pc := 310) (npc := 311) (a := 0) (b := 0) (d := 0) (w := 0) (sw := []) (cv := .null) lst_0 rfl ls o j h hj hn st Q
set_option maxRecDepth 20000 in
theorem k0_311 {σ : Sg} (ls : Lcl) (o : Nat) (a0 : Int32) (a1 : Int32) (st : List Value) (h4 : le4 st = true) (h : sT σ o = 16) (M : Mem) (Q : Po) : wp 0 311 ls (.int a1 :: .int a0 :: .ref o :: st) σ M Q = wp 8 0 [some (.ref o), some (.int a0), some (.int a1)] [] σ M (fun r σ1 M1 => wp 0 314 ls (pushR r st) σ1 M1 Q) := x_callV (pc := 311) (npc := 314) (a := 8) (b := 0) (d := 16) (w := 503) (sw := []) (cv := .retAddr 3) lst_0 rfl ls (.int a1 :: .int a0 :: .ref o :: st) rfl h4 rfl σ h M Q
set_option maxRecDepth 20000 in
theorem k0_314 (l0 l1 l3 : Option Value) (x : Nat) (st : List Value) (σ : Sg) (M : Mem) (Q : Po) : wp 0 314 [l0, l1, some (.ref x), l3] st σ M Q = wp 0 315 [l0, l1, some (.ref x), l3] (.ref x :: st) σ M Q := x_aload_n (pc := 314) (npc := 315) (a := 0) (b := 0) (d := 0) (w := 0) (sw := []) (cv := .null) lst_0 rfl [l0, l1, some (.ref x), l3] x rfl st σ M Q
set_option maxRecDepth 20000 in
theorem k0_315 (l1 l2 l3 : Option Value) (x : Nat) (st : List Value) (σ : Sg) (M : Mem) (Q : Po) : wp 0 315 [some (.ref x), l1, l2, l3] st σ M Q = wp 0 316 [some (.ref x), l1, l2, l3] (.ref x :: st) σ M Q := x_aload_n (pc := 315) (npc := 316) (a := 0) (b := 0) (d := 0) (w := 0) (sw := []) (cv := .null) lst_0 rfl [some (.ref x), l1, l2, l3] x rfl st σ M Q
set_option maxRecDepth 20000 in
theorem k0_316 (l0 l1 l2 : Option Value) (x : Int32) (st : List Value) (σ : Sg) (M : Mem) (Q : Po) : wp 0 316 [l0, l1, l2, some (.int x)] st σ M Q = wp 0 317 [l0, l1, l2, some (.int x)] (.int x :: st) σ M Q := x_iload_n (pc := 316) (npc := 317) (a := 0) (b := 0) (d := 0) (w := 0) (sw := []) (cv := .null) lst_0 rfl [l0, l1, l2, some (.int x)] x rfl st σ M Q
set_option maxRecDepth 20000 in
theorem k0_317 (ls : Lcl) (st : List Value) (σ : Sg) (M : Mem) (Q : Po) : wp 0 317 ls st σ M Q = wp 0 318 ls (.int (nI 1) :: st) σ M Q := x_iconst (pc := 317) (npc := 318) (a := 0) (b := 0) (d := 0) (w := 0) (sw := []) (cv := .int (nI 1)) lst_0 rfl ls st σ M Q
set_option maxRecDepth 20000 in
theorem k0_318 (ls : Lcl) (x y : Int32) (st : List Value) (σ : Sg) (M : Mem) (Q : Po) : wp 0 318 ls (.int y :: .int x :: st) σ M Q = wp 0 319 ls (.int (x + y) :: st) σ M Q := x_iadd (pc := 318) (npc := 319) (a := 0) (b := 0) (d := 0) (w := 0) (sw := []) (cv := .null) lst_0 rfl ls x y st σ M Q
set_option maxRecDepth 20000 in
theorem k0_319 {σ : Sg} (ls : Lcl) (o j : Nat) (h : isI (sT σ o) = true) (hj : j < sL σ o) (hn : sL σ o < 1000000) (st : List Value) (M : Mem) (Q : Po) : wp 0 319 ls (.int (nI j) :: .ref o :: st) σ M Q = wp 0 320 ls (.int (M o j) :: st) σ M Q := x_iaload (pc := 319) (npc := 320) (a := 0) (b := 0) (d := 0) (w := 0) (sw := []) (cv := .null) lst_0 rfl ls o j h hj hn st Q
set_option maxRecDepth 20000 in
theorem k0_320 (l1 l2 l3 : Option Value) (x : Nat) (st : List Value) (σ : Sg) (M : Mem) (Q : Po) : wp 0 320 [some (.ref x), l1, l2, l3] st σ M Q = wp 0 321 [some (.ref x), l1, l2, l3] (.ref x :: st) σ M Q := x_aload_n (pc := 320) (npc := 321) (a := 0) (b := 0) (d := 0) (w := 0) (sw := []) (cv := .null) lst_0 rfl [some (.ref x), l1, l2, l3] x rfl st σ M Q
set_option maxRecDepth 20000 in
theorem k0_321 (l0 l1 l2 : Option Value) (x : Int32) (st : List Value) (σ : Sg) (M : Mem) (Q : Po) : wp 0 321 [l0, l1, l2, some (.int x)] st σ M Q = wp 0 322 [l0, l1, l2, some (.int x)] (.int x :: st) σ M Q := x_iload_n (pc := 321) (npc := 322) (a := 0) (b := 0) (d := 0) (w := 0) (sw := []) (cv := .null) lst_0 rfl [l0, l1, l2, some (.int x)] x rfl st σ M Q
set_option maxRecDepth 20000 in
theorem k0_322 (ls : Lcl) (st : List Value) (σ : Sg) (M : Mem) (Q : Po) : wp 0 322 ls st σ M Q = wp 0 323 ls (.int (nI 2) :: st) σ M Q := x_iconst (pc := 322) (npc := 323) (a := 0) (b := 0) (d := 0) (w := 0) (sw := []) (cv := .int (nI 2)) lst_0 rfl ls st σ M Q
set_option maxRecDepth 20000 in
theorem k0_323 (ls : Lcl) (x y : Int32) (st : List Value) (σ : Sg) (M : Mem) (Q : Po) : wp 0 323 ls (.int y :: .int x :: st) σ M Q = wp 0 324 ls (.int (x + y) :: st) σ M Q := x_iadd (pc := 323) (npc := 324) (a := 0) (b := 0) (d := 0) (w := 0) (sw := []) (cv := .null) lst_0 rfl ls x y st σ M Q
set_option maxRecDepth 20000 in
theorem k0_324 {σ : Sg} (ls : Lcl) (o j : Nat) (h : isI (sT σ o) = true) (hj : j < sL σ o) (hn : sL σ o < 1000000) (st : List Value) (M : Mem) (Q : Po) : wp 0 324 ls (.int (nI j) :: .ref o :: st) σ M Q = wp 0 325 ls (.int (M o j) :: st) σ M Q := x_iaload (pc := 324) (npc := 325) (a := 0) (b := 0) (d := 0) (w := 0) (sw := []) (cv := .null) lst_0 rfl ls o j h hj hn st Q
set_option maxRecDepth 20000 in
theorem k0_325 {σ : Sg} (ls : Lcl) (o : Nat) (a0 : Int32) (a1 : Int32) (st : List Value) (h4 : le4 st = true) (h : sT σ o = 17) (M : Mem) (Q : Po) : wp 0 325 ls (.int a1 :: .int a0 :: .ref o :: st) σ M Q = wp 132 0 [some (.ref o), some (.int a0), some (.int a1)] [] σ M (fun r σ1 M1 => wp 0 328 ls (pushR r st) σ1 M1 Q) := x_callV (pc := 325) (npc := 328) (a := 132) (b := 0) (d := 17) (w := 909) (sw := []) (cv := .retAddr 3) lst_0 rfl ls (.int a1 :: .int a0 :: .ref o :: st) rfl h4 rfl σ h M Q
set_option maxRecDepth 20000 in
theorem k0_328 (ls : Lcl) (x y : Int32) (st : List Value) (σ : Sg) (M : Mem) (Q : Po) : wp 0 328 ls (.int y :: .int x :: st) σ M Q = if x = y then wp 0 678 ls st σ M Q else wp 0 331 ls st σ M Q := x_icmp_eq (pc := 328) (npc := 331) (a := 678) (b := 0) (d := 0) (w := 0) (sw := []) (cv := .null) lst_0 rfl ls x y st σ M Q
set_option maxRecDepth 20000 in
theorem k0_331 (ls : Lcl) (st : List Value) (σ : Sg) (M : Mem) (Q : Po) : wp 0 331 ls st σ M Q = wp 0 332 ls (.int (nI 0) :: st) σ M Q := x_iconst (pc := 331) (npc := 332) (a := 0) (b := 0) (d := 0) (w := 0) (sw := []) (cv := .int (nI 0)) lst_0 rfl ls st σ M Q
set_option maxRecDepth 20000 in
theorem k0_332 (ls : Lcl) (x : Int32) (h : okR (.int (nI 1)) x = true) (σ : Sg) (M : Mem) (Q : Po) : wp 0 332 ls [.int x] σ M Q = Q (some (.int x)) σ M := x_ireturn (pc := 332) (npc := 333) (a := 0) (b := 0) (d := 0) (w := 0) (sw := []) (cv := .int (nI 1)) lst_0 rfl ls x h σ M Q
set_option maxRecDepth 20000 in
theorem k0_333 (l0 l2 l3 : Option Value) (x : Nat) (st : List Value) (σ : Sg) (M : Mem) (Q : Po) : wp 0 333 [l0, some (.ref x), l2, l3] st σ M Q = wp 0 334 [l0, some (.ref x), l2, l3] (.ref x :: st) σ M Q := x_aload_n (pc := 333) (npc := 334) (a := 0) (b := 0) (d := 0) (w := 0) (sw := []) (cv := .null) lst_0 rfl [l0, some (.ref x), l2, l3] x rfl st σ M Q
set_option maxRecDepth 20000 in
theorem k0_334 (l1 l2 l3 : Option Value) (x : Nat) (st : List Value) (σ : Sg) (M : Mem) (Q : Po) : wp 0 334 [some (.ref x), l1, l2, l3] st σ M Q = wp 0 335 [some (.ref x), l1, l2, l3] (.ref x :: st) σ M Q := x_aload_n (pc := 334) (npc := 335) (a := 0) (b := 0) (d := 0) (w := 0) (sw := []) (cv := .null) lst_0 rfl [some (.ref x), l1, l2, l3] x rfl st σ M Q
set_option maxRecDepth 20000 in
theorem k0_335 (l0 l1 l2 : Option Value) (x : Int32) (st : List Value) (σ : Sg) (M : Mem) (Q : Po) : wp 0 335 [l0, l1, l2, some (.int x)] st σ M Q = wp 0 336 [l0, l1, l2, some (.int x)] (.int x :: st) σ M Q := x_iload_n (pc := 335) (npc := 336) (a := 0) (b := 0) (d := 0) (w := 0) (sw := []) (cv := .null) lst_0 rfl [l0, l1, l2, some (.int x)] x rfl st σ M Q
set_option maxRecDepth 20000 in
theorem k0_336 (ls : Lcl) (st : List Value) (σ : Sg) (M : Mem) (Q : Po) : wp 0 336 ls st σ M Q = wp 0 337 ls (.int (nI 1) :: st) σ M Q := x_iconst (pc := 336) (npc := 337) (a := 0) (b := 0) (d := 0) (w := 0) (sw := []) (cv := .int (nI 1)) lst_0 rfl ls st σ M Q
set_option maxRecDepth 20000 in
theorem k0_337 (ls : Lcl) (x y : Int32) (st : List Value) (σ : Sg) (M : Mem) (Q : Po) : wp 0 337 ls (.int y :: .int x :: st) σ M Q = wp 0 338 ls (.int (x + y) :: st) σ M Q := x_iadd (pc := 337) (npc := 338) (a := 0) (b := 0) (d := 0) (w := 0) (sw := []) (cv := .null) lst_0 rfl ls x y st σ M Q
set_option maxRecDepth 20000 in
theorem k0_338 {σ : Sg} (ls : Lcl) (o j : Nat) (h : isI (sT σ o) = true) (hj : j < sL σ o) (hn : sL σ o < 1000000) (st : List Value) (M : Mem) (Q : Po) : wp 0 338 ls (.int (nI j) :: .ref o :: st) σ M Q = wp 0 339 ls (.int (M o j) :: st) σ M Q := x_iaload (pc := 338) (npc := 339) (a := 0) (b := 0) (d := 0) (w := 0) (sw := []) (cv := .null) lst_0 rfl ls o j h hj hn st Q
set_option maxRecDepth 20000 in
theorem k0_339 (l1 l2 l3 : Option Value) (x : Nat) (st : List Value) (σ : Sg) (M : Mem) (Q : Po) : wp 0 339 [some (.ref x), l1, l2, l3] st σ M Q = wp 0 340 [some (.ref x), l1, l2, l3] (.ref x :: st) σ M Q := x_aload_n (pc := 339) (npc := 340) (a := 0) (b := 0) (d := 0) (w := 0) (sw := []) (cv := .null) lst_0 rfl [some (.ref x), l1, l2, l3] x rfl st σ M Q
set_option maxRecDepth 20000 in
theorem k0_340 (l0 l1 l2 : Option Value) (x : Int32) (st : List Value) (σ : Sg) (M : Mem) (Q : Po) : wp 0 340 [l0, l1, l2, some (.int x)] st σ M Q = wp 0 341 [l0, l1, l2, some (.int x)] (.int x :: st) σ M Q := x_iload_n (pc := 340) (npc := 341) (a := 0) (b := 0) (d := 0) (w := 0) (sw := []) (cv := .null) lst_0 rfl [l0, l1, l2, some (.int x)] x rfl st σ M Q
set_option maxRecDepth 20000 in
theorem k0_341 (ls : Lcl) (st : List Value) (σ : Sg) (M : Mem) (Q : Po) : wp 0 341 ls st σ M Q = wp 0 342 ls (.int (nI 2) :: st) σ M Q := x_iconst (pc := 341) (npc := 342) (a := 0) (b := 0) (d := 0) (w := 0) (sw := []) (cv := .int (nI 2)) lst_0 rfl ls st σ M Q
set_option maxRecDepth 20000 in
theorem k0_342 (ls : Lcl) (x y : Int32) (st : List Value) (σ : Sg) (M : Mem) (Q : Po) : wp 0 342 ls (.int y :: .int x :: st) σ M Q = wp 0 343 ls (.int (x + y) :: st) σ M Q := x_iadd (pc := 342) (npc := 343) (a := 0) (b := 0) (d := 0) (w := 0) (sw := []) (cv := .null) lst_0 rfl ls x y st σ M Q
set_option maxRecDepth 20000 in
theorem k0_343 {σ : Sg} (ls : Lcl) (o j : Nat) (h : isI (sT σ o) = true) (hj : j < sL σ o) (hn : sL σ o < 1000000) (st : List Value) (M : Mem) (Q : Po) : wp 0 343 ls (.int (nI j) :: .ref o :: st) σ M Q = wp 0 344 ls (.int (M o j) :: st) σ M Q := x_iaload (pc := 343) (npc := 344) (a := 0) (b := 0) (d := 0) (w := 0) (sw := []) (cv := .null) lst_0 rfl ls o j h hj hn st Q
set_option maxRecDepth 20000 in
theorem k0_344 {σ : Sg} (ls : Lcl) (o : Nat) (a0 : Int32) (a1 : Int32) (st : List Value) (h4 : le4 st = true) (h : sT σ o = 16) (M : Mem) (Q : Po) : wp 0 344 ls (.int a1 :: .int a0 :: .ref o :: st) σ M Q = wp 9 0 [some (.ref o), some (.int a0), some (.int a1)] [] σ M (fun r σ1 M1 => wp 0 347 ls (pushR r st) σ1 M1 Q) := x_callV (pc := 344) (npc := 347) (a := 9) (b := 0) (d := 16) (w := 515) (sw := []) (cv := .retAddr 3) lst_0 rfl ls (.int a1 :: .int a0 :: .ref o :: st) rfl h4 rfl σ h M Q
set_option maxRecDepth 20000 in
theorem k0_347 (l0 l1 l3 : Option Value) (x : Nat) (st : List Value) (σ : Sg) (M : Mem) (Q : Po) : wp 0 347 [l0, l1, some (.ref x), l3] st σ M Q = wp 0 348 [l0, l1, some (.ref x), l3] (.ref x :: st) σ M Q := x_aload_n (pc := 347) (npc := 348) (a := 0) (b := 0) (d := 0) (w := 0) (sw := []) (cv := .null) lst_0 rfl [l0, l1, some (.ref x), l3] x rfl st σ M Q
set_option maxRecDepth 20000 in
theorem k0_348 (l1 l2 l3 : Option Value) (x : Nat) (st : List Value) (σ : Sg) (M : Mem) (Q : Po) : wp 0 348 [some (.ref x), l1, l2, l3] st σ M Q = wp 0 349 [some (.ref x), l1, l2, l3] (.ref x :: st) σ M Q := x_aload_n (pc := 348) (npc := 349) (a := 0) (b := 0) (d := 0) (w := 0) (sw := []) (cv := .null) lst_0 rfl [some (.ref x), l1, l2, l3] x rfl st σ M Q
set_option maxRecDepth 20000 in
theorem k0_349 (l0 l1 l2 : Option Value) (x : Int32) (st : List Value) (σ : Sg) (M : Mem) (Q : Po) : wp 0 349 [l0, l1, l2, some (.int x)] st σ M Q = wp 0 350 [l0, l1, l2, some (.int x)] (.int x :: st) σ M Q := x_iload_n (pc := 349) (npc := 350) (a := 0) (b := 0) (d := 0) (w := 0) (sw := []) (cv := .null) lst_0 rfl [l0, l1, l2, some (.int x)] x rfl st σ M Q
set_option maxRecDepth 20000 in
theorem k0_350 (ls : Lcl) (st : List Value) (σ : Sg) (M : Mem) (Q : Po) : wp 0 350 ls st σ M Q = wp 0 351 ls (.int (nI 1) :: st) σ M Q := x_iconst (pc := 350) (npc := 351) (a := 0) (b := 0) (d := 0) (w := 0) (sw := []) (cv := .int (nI 1)) lst_0 rfl ls st σ M Q
set_option maxRecDepth 20000 in
theorem k0_351 (ls : Lcl) (x y : Int32) (st : List Value) (σ : Sg) (M : Mem) (Q : Po) : wp 0 351 ls (.int y :: .int x :: st) σ M Q = wp 0 352 ls (.int (x + y) :: st) σ M Q := x_iadd (pc := 351) (npc := 352) (a := 0) (b := 0) (d := 0) (w := 0) (sw := []) (cv := .null) lst_0 rfl ls x y st σ M Q
set_option maxRecDepth 20000 in
theorem k0_352 {σ : Sg} (ls : Lcl) (o j : Nat) (h : isI (sT σ o) = true) (hj : j < sL σ o) (hn : sL σ o < 1000000) (st : List Value) (M : Mem) (Q : Po) : wp 0 352 ls (.int (nI j) :: .ref o :: st) σ M Q = wp 0 353 ls (.int (M o j) :: st) σ M Q := x_iaload (pc := 352) (npc := 353) (a := 0) (b := 0) (d := 0) (w := 0) (sw := []) (cv := .null) lst_0 rfl ls o j h hj hn st Q
set_option maxRecDepth 20000 in
theorem k0_353 (l1 l2 l3 : Option Value) (x : Nat) (st : List Value) (σ : Sg) (M : Mem) (Q : Po) : wp 0 353 [some (.ref x), l1, l2, l3] st σ M Q = wp 0 354 [some (.ref x), l1, l2, l3] (.ref x :: st) σ M Q := x_aload_n (pc := 353) (npc := 354) (a := 0) (b := 0) (d := 0) (w := 0) (sw := []) (cv := .null) lst_0 rfl [some (.ref x), l1, l2, l3] x rfl st σ M Q
set_option maxRecDepth 20000 in
theorem k0_354 (l0 l1 l2 : Option Value) (x : Int32) (st : List Value) (σ : Sg) (M : Mem) (Q : Po) : wp 0 354 [l0, l1, l2, some (.int x)] st σ M Q = wp 0 355 [l0, l1, l2, some (.int x)] (.int x :: st) σ M Q := x_iload_n (pc := 354) (npc := 355) (a := 0) (b := 0) (d := 0) (w := 0) (sw := []) (cv := .null) lst_0 rfl [l0, l1, l2, some (.int x)] x rfl st σ M Q
set_option maxRecDepth 20000 in
theorem k0_355 (ls : Lcl) (st : List Value) (σ : Sg) (M : Mem) (Q : Po) : wp 0 355 ls st σ M Q = wp 0 356 ls (.int (nI 2) :: st) σ M Q := x_iconst (pc := 355) (npc := 356) (a := 0) (b := 0) (d := 0) (w := 0) (sw := []) (cv := .int (nI 2)) lst_0 rfl ls st σ M Q
set_option maxRecDepth 20000 in
theorem k0_356 (ls : Lcl) (x y : Int32) (st : List Value) (σ : Sg) (M : Mem) (Q : Po) : wp 0 356 ls (.int y :: .int x :: st) σ M Q = wp 0 357 ls (.int (x + y) :: st) σ M Q := x_iadd (pc := 356) (npc := 357) (a := 0) (b := 0) (d := 0) (w := 0) (sw := []) (cv := .null) lst_0 rfl ls x y st σ M Q
set_option maxRecDepth 20000 in
theorem k0_357 {σ : Sg} (ls : Lcl) (o j : Nat) (h : isI (sT σ o) = true) (hj : j < sL σ o) (hn : sL σ o < 1000000) (st : List Value) (M : Mem) (Q : Po) : wp 0 357 ls (.int (nI j) :: .ref o :: st) σ M Q = wp 0 358 ls (.int (M o j) :: st) σ M Q := x_iaload (pc := 357) (npc := 358) (a := 0) (b := 0) (d := 0) (w := 0) (sw := []) (cv := .null) lst_0 rfl ls o j h hj hn st Q
set_option maxRecDepth 20000 in
theorem k0_358 {σ : Sg} (ls : Lcl) (o : Nat) (a0 : Int32) (a1 : Int32) (st : List Value) (h4 : le4 st = true) (h : sT σ o = 17) (M : Mem) (Q : Po) : wp 0 358 ls (.int a1 :: .int a0 :: .ref o :: st) σ M Q = wp 134 0 [some (.ref o), some (.int a0), some (.int a1)] [] σ M (fun r σ1 M1 => wp 0 361 ls (pushR r st) σ1 M1 Q) := x_callV (pc := 358) (npc := 361) (a := 134) (b := 0) (d := 17) (w := 920) (sw := []) (cv := .retAddr 3) lst_0 rfl ls (.int a1 :: .int a0 :: .ref o :: st) rfl h4 rfl σ h M Q
set_option maxRecDepth 20000 in
theorem k0_361 (ls : Lcl) (x y : Int32) (st : List Value) (σ : Sg) (M : Mem) (Q : Po) : wp 0 361 ls (.int y :: .int x :: st) σ M Q = if x = y then wp 0 678 ls st σ M Q else wp 0 364 ls st σ M Q := x_icmp_eq (pc := 361) (npc := 364) (a := 678) (b := 0) (d := 0) (w := 0) (sw := []) (cv := .null) lst_0 rfl ls x y st σ M Q
set_option maxRecDepth 20000 in
theorem k0_364 (ls : Lcl) (st : List Value) (σ : Sg) (M : Mem) (Q : Po) : wp 0 364 ls st σ M Q = wp 0 365 ls (.int (nI 0) :: st) σ M Q := x_iconst (pc := 364) (npc := 365) (a := 0) (b := 0) (d := 0) (w := 0) (sw := []) (cv := .int (nI 0)) lst_0 rfl ls st σ M Q
set_option maxRecDepth 20000 in
theorem k0_365 (ls : Lcl) (x : Int32) (h : okR (.int (nI 1)) x = true) (σ : Sg) (M : Mem) (Q : Po) : wp 0 365 ls [.int x] σ M Q = Q (some (.int x)) σ M := x_ireturn (pc := 365) (npc := 366) (a := 0) (b := 0) (d := 0) (w := 0) (sw := []) (cv := .int (nI 1)) lst_0 rfl ls x h σ M Q
set_option maxRecDepth 20000 in
theorem k0_366 (l0 l2 l3 : Option Value) (x : Nat) (st : List Value) (σ : Sg) (M : Mem) (Q : Po) : wp 0 366 [l0, some (.ref x), l2, l3] st σ M Q = wp 0 367 [l0, some (.ref x), l2, l3] (.ref x :: st) σ M Q := x_aload_n (pc := 366) (npc := 367) (a := 0) (b := 0) (d := 0) (w := 0) (sw := []) (cv := .null) lst_0 rfl [l0, some (.ref x), l2, l3] x rfl st σ M Q
set_option maxRecDepth 20000 in
theorem k0_367 (l1 l2 l3 : Option Value) (x : Nat) (st : List Value) (σ : Sg) (M : Mem) (Q : Po) : wp 0 367 [some (.ref x), l1, l2, l3] st σ M Q = wp 0 368 [some (.ref x), l1, l2, l3] (.ref x :: st) σ M Q := x_aload_n (pc := 367) (npc := 368) (a := 0) (b := 0) (d := 0) (w := 0) (sw := []) (cv := .null) lst_0 rfl [some (.ref x), l1, l2, l3] x rfl st σ M Q
set_option maxRecDepth 20000 in
theorem k0_368 (l0 l1 l2 : Option Value) (x : Int32) (st : List Value) (σ : Sg) (M : Mem) (Q : Po) : wp 0 368 [l0, l1, l2, some (.int x)] st σ M Q = wp 0 369 [l0, l1, l2, some (.int x)] (.int x :: st) σ M Q := x_iload_n (pc := 368) (npc := 369) (a := 0) (b := 0) (d := 0) (w := 0) (sw := []) (cv := .null) lst_0 rfl [l0, l1, l2, some (.int x)] x rfl st σ M Q
set_option maxRecDepth 20000 in
theorem k0_369 (ls : Lcl) (st : List Value) (σ : Sg) (M : Mem) (Q : Po) : wp 0 369 ls st σ M Q = wp 0 370 ls (.int (nI 1) :: st) σ M Q := x_iconst (pc := 369) (npc := 370) (a := 0) (b := 0) (d := 0) (w := 0) (sw := []) (cv := .int (nI 1)) lst_0 rfl ls st σ M Q
set_option maxRecDepth 20000 in
theorem k0_370 (ls : Lcl) (x y : Int32) (st : List Value) (σ : Sg) (M : Mem) (Q : Po) : wp 0 370 ls (.int y :: .int x :: st) σ M Q = wp 0 371 ls (.int (x + y) :: st) σ M Q := x_iadd (pc := 370) (npc := 371) (a := 0) (b := 0) (d := 0) (w := 0) (sw := []) (cv := .null) lst_0 rfl ls x y st σ M Q
set_option maxRecDepth 20000 in
theorem k0_371 {σ : Sg} (ls : Lcl) (o j : Nat) (h : isI (sT σ o) = true) (hj : j < sL σ o) (hn : sL σ o < 1000000) (st : List Value) (M : Mem) (Q : Po) : wp 0 371 ls (.int (nI j) :: .ref o :: st) σ M Q = wp 0 372 ls (.int (M o j) :: st) σ M Q := x_iaload (pc := 371) (npc := 372) (a := 0) (b := 0) (d := 0) (w := 0) (sw := []) (cv := .null) lst_0 rfl ls o j h hj hn st Q
set_option maxRecDepth 20000 in
theorem k0_372 (l1 l2 l3 : Option Value) (x : Nat) (st : List Value) (σ : Sg) (M : Mem) (Q : Po) : wp 0 372 [some (.ref x), l1, l2, l3] st σ M Q = wp 0 373 [some (.ref x), l1, l2, l3] (.ref x :: st) σ M Q := x_aload_n (pc := 372) (npc := 373) (a := 0) (b := 0) (d := 0) (w := 0) (sw := []) (cv := .null) lst_0 rfl [some (.ref x), l1, l2, l3] x rfl st σ M Q
set_option maxRecDepth 20000 in
theorem k0_373 (l0 l1 l2 : Option Value) (x : Int32) (st : List Value) (σ : Sg) (M : Mem) (Q : Po) : wp 0 373 [l0, l1, l2, some (.int x)] st σ M Q = wp 0 374 [l0, l1, l2, some (.int x)] (.int x :: st) σ M Q := x_iload_n (pc := 373) (npc := 374) (a := 0) (b := 0) (d := 0) (w := 0) (sw := []) (cv := .null) lst_0 rfl [l0, l1, l2, some (.int x)] x rfl st σ M Q
set_option maxRecDepth 20000 in
theorem k0_374 (ls : Lcl) (st : List Value) (σ : Sg) (M : Mem) (Q : Po) : wp 0 374 ls st σ M Q = wp 0 375 ls (.int (nI 2) :: st) σ M Q := x_iconst (pc := 374) (npc := 375) (a := 0) (b := 0) (d := 0) (w := 0) (sw := []) (cv := .int (nI 2)) lst_0 rfl ls st σ M Q
set_option maxRecDepth 20000 in
theorem k0_375 (ls : Lcl) (x y : Int32) (st : List Value) (σ : Sg) (M : Mem) (Q : Po) : wp 0 375 ls (.int y :: .int x :: st) σ M Q = wp 0 376 ls (.int (x + y) :: st) σ M Q := x_iadd (pc := 375) (npc := 376) (a := 0) (b := 0) (d := 0) (w := 0) (sw := []) (cv := .null) lst_0 rfl ls x y st σ M Q
set_option maxRecDepth 20000 in
theorem k0_376 {σ : Sg} (ls : Lcl) (o j : Nat) (h : isI (sT σ o) = true) (hj : j < sL σ o) (hn : sL σ o < 1000000) (st : List Value) (M : Mem) (Q : Po) : wp 0 376 ls (.int (nI j) :: .ref o :: st) σ M Q = wp 0 377 ls (.int (M o j) :: st) σ M Q := x_iaload (pc := 376) (npc := 377) (a := 0) (b := 0) (d := 0) (w := 0) (sw := []) (cv := .null) lst_0 rfl ls o j h hj hn st Q
set_option maxRecDepth 20000 in
theorem k0_377 {σ : Sg} (ls : Lcl) (o : Nat) (a0 : Int32) (a1 : Int32) (st : List Value) (h4 : le4 st = true) (h : sT σ o = 16) (M : Mem) (Q : Po) : wp 0 377 ls (.int a1 :: .int a0 :: .ref o :: st) σ M Q = wp 10 0 [some (.ref o), some (.int a0), some (.int a1)] [] σ M (fun r σ1 M1 => wp 0 380 ls (pushR r st) σ1 M1 Q) := x_callV (pc := 377) (npc := 380) (a := 10) (b := 0) (d := 16) (w := 523) (sw := []) (cv := .retAddr 3) lst_0 rfl ls (.int a1 :: .int a0 :: .ref o :: st) rfl h4 rfl σ h M Q
set_option maxRecDepth 20000 in
theorem k0_380 (l0 l1 l3 : Option Value) (x : Nat) (st : List Value) (σ : Sg) (M : Mem) (Q : Po) : wp 0 380 [l0, l1, some (.ref x), l3] st σ M Q = wp 0 381 [l0, l1, some (.ref x), l3] (.ref x :: st) σ M Q := x_aload_n (pc := 380) (npc := 381) (a := 0) (b := 0) (d := 0) (w := 0) (sw := []) (cv := .null) lst_0 rfl [l0, l1, some (.ref x), l3] x rfl st σ M Q
set_option maxRecDepth 20000 in
theorem k0_381 (l1 l2 l3 : Option Value) (x : Nat) (st : List Value) (σ : Sg) (M : Mem) (Q : Po) : wp 0 381 [some (.ref x), l1, l2, l3] st σ M Q = wp 0 382 [some (.ref x), l1, l2, l3] (.ref x :: st) σ M Q := x_aload_n (pc := 381) (npc := 382) (a := 0) (b := 0) (d := 0) (w := 0) (sw := []) (cv := .null) lst_0 rfl [some (.ref x), l1, l2, l3] x rfl st σ M Q
set_option maxRecDepth 20000 in
theorem k0_382 (l0 l1 l2 : Option Value) (x : Int32) (st : List Value) (σ : Sg) (M : Mem) (Q : Po) : wp 0 382 [l0, l1, l2, some (.int x)] st σ M Q = wp 0 383 [l0, l1, l2, some (.int x)] (.int x :: st) σ M Q := x_iload_n (pc := 382) (npc := 383) (a := 0) (b := 0) (d := 0) (w := 0) (sw := []) (cv := .null) lst_0 rfl [l0, l1, l2, some (.int x)] x rfl st σ M Q
set_option maxRecDepth 20000 in
theorem k0_383 (ls : Lcl) (st : List Value) (σ : Sg) (M : Mem) (Q : Po) : wp 0 383 ls st σ M Q = wp 0 384 ls (.int (nI 1) :: st) σ M Q := x_iconst (pc := 383) (npc := 384) (a := 0) (b := 0) (d := 0) (w := 0) (sw := []) (cv := .int (nI 1)) lst_0 rfl ls st σ M Q
set_option maxRecDepth 20000 in
theorem k0_384 (ls : Lcl) (x y : Int32) (st : List Value) (σ : Sg) (M : Mem) (Q : Po) : wp 0 384 ls (.int y :: .int x :: st) σ M Q = wp 0 385 ls (.int (x + y) :: st) σ M Q := x_iadd (pc := 384) (npc := 385) (a := 0) (b := 0) (d := 0) (w := 0) (sw := []) (cv := .null) lst_0 rfl ls x y st σ M Q
set_option maxRecDepth 20000 in
theorem k0_385 {σ : Sg} (ls : Lcl) (o j : Nat) (h : isI (sT σ o) = true) (hj : j < sL σ o) (hn : sL σ o < 1000000) (st : List Value) (M : Mem) (Q : Po) : wp 0 385 ls (.int (nI j) :: .ref o :: st) σ M Q = wp 0 386 ls (.int (M o j) :: st) σ M Q := x_iaload (pc := 385) (npc := 386) (a := 0) (b := 0) (d := 0) (w := 0) (sw := []) (cv := .null) lst_0 rfl ls o j h hj hn st Q
set_option maxRecDepth 20000 in
theorem k0_386 (l1 l2 l3 : Option Value) (x : Nat) (st : List Value) (σ : Sg) (M : Mem) (Q : Po) : wp 0 386 [some (.ref x), l1, l2, l3] st σ M Q = wp 0 387 [some (.ref x), l1, l2, l3] (.ref x :: st) σ M Q := x_aload_n (pc := 386) (npc := 387) (a := 0) (b := 0) (d := 0) (w := 0) (sw := []) (cv := .null) lst_0 rfl [some (.ref x), l1, l2, l3] x rfl st σ M Q
set_option maxRecDepth 20000 in
theorem k0_387 (l0 l1 l2 : Option Value) (x : Int32) (st : List Value) (σ : Sg) (M : Mem) (Q : Po) : wp 0 387 [l0, l1, l2, some (.int x)] st σ M Q = wp 0 388 [l0, l1, l2, some (.int x)] (.int x :: st) σ M Q := x_iload_n (pc := 387) (npc := 388) (a := 0) (b := 0) (d := 0) (w := 0) (sw := []) (cv := .null) lst_0 rfl [l0, l1, l2, some (.int x)] x rfl st σ M Q
set_option maxRecDepth 20000 in
theorem k0_388 (ls : Lcl) (st : List Value) (σ : Sg) (M : Mem) (Q : Po) : wp 0 388 ls st σ M Q = wp 0 389 ls (.int (nI 2) :: st) σ M Q := x_iconst (pc := 388) (npc := 389) (a := 0) (b := 0) (d := 0) (w := 0) (sw := []) (cv := .int (nI 2)) lst_0 rfl ls st σ M Q
set_option maxRecDepth 20000 in
theorem k0_389 (ls : Lcl) (x y : Int32) (st : List Value) (σ : Sg) (M : Mem) (Q : Po) : wp 0 389 ls (.int y :: .int x :: st) σ M Q = wp 0 390 ls (.int (x + y) :: st) σ M Q := x_iadd (pc := 389) (npc := 390) (a := 0) (b := 0) (d := 0) (w := 0) (sw := []) (cv := .null) lst_0 rfl ls x y st σ M Q
set_option maxRecDepth 20000 in
theorem k0_390 {σ : Sg} (ls : Lcl) (o j : Nat) (h : isI (sT σ o) = true) (hj : j < sL σ o) (hn : sL σ o < 1000000) (st : List Value) (M : Mem) (Q : Po) : wp 0 390 ls (.int (nI j) :: .ref o :: st) σ M Q = wp 0 391 ls (.int (M o j) :: st) σ M Q := x_iaload (pc := 390) (npc := 391) (a := 0) (b := 0) (d := 0) (w := 0) (sw := []) (cv := .null) lst_0 rfl ls o j h hj hn st Q
set_option maxRecDepth 20000 in
theorem k0_391 {σ : Sg} (ls : Lcl) (o : Nat) (a0 : Int32) (a1 : Int32) (st : List Value) (h4 : le4 st = true) (h : sT σ o = 17) (M : Mem) (Q : Po) : wp 0 391 ls (.int a1 :: .int a0 :: .ref o :: st) σ M Q = wp 136 0 [some (.ref o), some (.int a0), some (.int a1)] [] σ M (fun r σ1 M1 => wp 0 394 ls (pushR r st) σ1 M1 Q) := x_callV (pc := 391) (npc := 394) (a := 136) (b := 0) (d := 17) (w := 928) (sw := []) (cv := .retAddr 3) lst_0 rfl ls (.int a1 :: .int a0 :: .ref o :: st) rfl h4 rfl σ h M Q
set_option maxRecDepth 20000 in
theorem k0_394 (ls : Lcl) (x y : Int32) (st : List Value) (σ : Sg) (M : Mem) (Q : Po) : wp 0 394 ls (.int y :: .int x :: st) σ M Q = if x = y then wp 0 678 ls st σ M Q else wp 0 397 ls st σ M Q := x_icmp_eq (pc := 394) (npc := 397) (a := 678) (b := 0) (d := 0) (w := 0) (sw := []) (cv := .null) lst_0 rfl ls x y st σ M Q
set_option maxRecDepth 20000 in
theorem k0_397 (ls : Lcl) (st : List Value) (σ : Sg) (M : Mem) (Q : Po) : wp 0 397 ls st σ M Q = wp 0 398 ls (.int (nI 0) :: st) σ M Q := x_iconst (pc := 397) (npc := 398) (a := 0) (b := 0) (d := 0) (w := 0) (sw := []) (cv := .int (nI 0)) lst_0 rfl ls st σ M Q
set_option maxRecDepth 20000 in
theorem k0_398 (ls : Lcl) (x : Int32) (h : okR (.int (nI 1)) x = true) (σ : Sg) (M : Mem) (Q : Po) : wp 0 398 ls [.int x] σ M Q = Q (some (.int x)) σ M := x_ireturn (pc := 398) (npc := 399) (a := 0) (b := 0) (d := 0) (w := 0) (sw := []) (cv := .int (nI 1)) lst_0 rfl ls x h σ M Q
set_option maxRecDepth 20000 in
theorem k0_399 (l0 l2 l3 : Option Value) (x : Nat) (st : List Value) (σ : Sg) (M : Mem) (Q : Po) : wp 0 399 [l0, some (.ref x), l2, l3] st σ M Q = wp 0 400 [l0, some (.ref x), l2, l3] (.ref x :: st) σ M Q := x_aload_n (pc := 399) (npc := 400) (a := 0) (b := 0) (d := 0) (w := 0) (sw := []) (cv := .null) lst_0 rfl [l0, some (.ref x), l2, l3] x rfl st σ M Q
set_option maxRecDepth 20000 in
theorem k0_400 (l1 l2 l3 : Option Value) (x : Nat) (st : List Value) (σ : Sg) (M : Mem) (Q : Po) : wp 0 400 [some (.ref x), l1, l2, l3] st σ M Q = wp 0 401 [some (.ref x), l1, l2, l3] (.ref x :: st) σ M Q := x_aload_n (pc := 400) (npc := 401) (a := 0) (b := 0) (d := 0) (w := 0) (sw := []) (cv := .null) lst_0 rfl [some (.ref x), l1, l2, l3] x rfl st σ M Q
set_option maxRecDepth 20000 in
theorem k0_401 (l0 l1 l2 : Option Value) (x : Int32) (st : List Value) (σ : Sg) (M : Mem) (Q : Po) : wp 0 401 [l0, l1, l2, some (.int x)] st σ M Q = wp 0 402 [l0, l1, l2, some (.int x)] (.int x :: st) σ M Q := x_iload_n (pc := 401) (npc := 402) (a := 0) (b := 0) (d := 0) (w := 0) (sw := []) (cv := .null) lst_0 rfl [l0, l1, l2, some (.int x)] x rfl st σ M Q
set_option maxRecDepth 20000 in
theorem k0_402 (ls : Lcl) (st : List Value) (σ : Sg) (M : Mem) (Q : Po) : wp 0 402 ls st σ M Q = wp 0 403 ls (.int (nI 1) :: st) σ M Q := x_iconst (pc := 402) (npc := 403) (a := 0) (b := 0) (d := 0) (w := 0) (sw := []) (cv := .int (nI 1)) lst_0 rfl ls st σ M Q
set_option maxRecDepth 20000 in
theorem k0_403 (ls : Lcl) (x y : Int32) (st : List Value) (σ : Sg) (M : Mem) (Q : Po) : wp 0 403 ls (.int y :: .int x :: st) σ M Q = wp 0 404 ls (.int (x + y) :: st) σ M Q := x_iadd (pc := 403) (npc := 404) (a := 0) (b := 0) (d := 0) (w := 0) (sw := []) (cv := .null) lst_0 rfl ls x y st σ M Q
set_option maxRecDepth 20000 in
theorem k0_404 {σ : Sg} (ls : Lcl) (o j : Nat) (h : isI (sT σ o) = true) (hj : j < sL σ o) (hn : sL σ o < 1000000) (st : List Value) (M : Mem) (Q : Po) : wp 0 404 ls (.int (nI j) :: .ref o :: st) σ M Q = wp 0 405 ls (.int (M o j) :: st) σ M Q := x_iaload (pc := 404) (npc := 405) (a := 0) (b := 0) (d := 0) (w := 0) (sw := []) (cv := .null) lst_0 rfl ls o j h hj hn st Q
set_option maxRecDepth 20000 in
theorem k0_405 {σ : Sg} (ls : Lcl) (o : Nat) (a0 : Int32) (st : List Value) (h4 : le4 st = true) (h : sT σ o = 16) (M : Mem) (Q : Po) : wp 0 405 ls (.int a0 :: .ref o :: st) σ M Q = wp 11 0 [some (.ref o), some (.int a0)] [] σ M (fun r σ1 M1 => wp 0 408 ls (pushR r st) σ1 M1 Q) := x_callV (pc := 405) (npc := 408) (a := 11) (b := 0) (d := 16) (w := 550) (sw := []) (cv := .retAddr 2) lst_0 rfl ls (.int a0 :: .ref o :: st) rfl h4 rfl σ h M Q
set_option maxRecDepth 20000 in
theorem k0_408 (l0 l1 l3 : Option Value) (x : Nat) (st : List Value) (σ : Sg) (M : Mem) (Q : Po) : wp 0 408 [l0, l1, some (.ref x), l3] st σ M Q = wp 0 409 [l0, l1, some (.ref x), l3] (.ref x :: st) σ M Q := x_aload_n (pc := 408) (npc := 409) (a := 0) (b := 0) (d := 0) (w := 0) (sw := []) (cv := .null) lst_0 rfl [l0, l1, some (.ref x), l3] x rfl st σ M Q
set_option maxRecDepth 20000 in
theorem k0_409 (l1 l2 l3 : Option Value) (x : Nat) (st : List Value) (σ : Sg) (M : Mem) (Q : Po) : wp 0 409 [some (.ref x), l1, l2, l3] st σ M Q = wp 0 410 [some (.ref x), l1, l2, l3] (.ref x :: st) σ M Q := x_aload_n (pc := 409) (npc := 410) (a := 0) (b := 0) (d := 0) (w := 0) (sw := []) (cv := .null) lst_0 rfl [some (.ref x), l1, l2, l3] x rfl st σ M Q
set_option maxRecDepth 20000 in
theorem k0_410 (l0 l1 l2 : Option Value) (x : Int32) (st : List Value) (σ : Sg) (M : Mem) (Q : Po) : wp 0 410 [l0, l1, l2, some (.int x)] st σ M Q = wp 0 411 [l0, l1, l2, some (.int x)] (.int x :: st) σ M Q := x_iload_n (pc := 410) (npc := 411) (a := 0) (b := 0) (d := 0) (w := 0) (sw := []) (cv := .null) lst_0 rfl [l0, l1, l2, some (.int x)] x rfl st σ M Q
set_option maxRecDepth 20000 in
theorem k0_411 (ls : Lcl) (st : List Value) (σ : Sg) (M : Mem) (Q : Po) : wp 0 411 ls st σ M Q = wp 0 412 ls (.int (nI 1) :: st) σ M Q := x_iconst (pc := 411) (npc := 412) (a := 0) (b := 0) (d := 0) (w := 0) (sw := []) (cv := .int (nI 1)) lst_0 rfl ls st σ M Q
set_option maxRecDepth 20000 in
theorem k0_412 (ls : Lcl) (x y : Int32) (st : List Value) (σ : Sg) (M : Mem) (Q : Po) : wp 0 412 ls (.int y :: .int x :: st) σ M Q = wp 0 413 ls (.int (x + y) :: st) σ M Q := x_iadd (pc := 412) (npc := 413) (a := 0) (b := 0) (d := 0) (w := 0) (sw := []) (cv := .null) lst_0 rfl ls x y st σ M Q
set_option maxRecDepth 20000 in
theorem k0_413 {σ : Sg} (ls : Lcl) (o j : Nat) (h : isI (sT σ o) = true) (hj : j < sL σ o) (hn : sL σ o < 1000000) (st : List Value) (M : Mem) (Q : Po) : wp 0 413 ls (.int (nI j) :: .ref o :: st) σ M Q = wp 0 414 ls (.int (M o j) :: st) σ M Q := x_iaload (pc := 413) (npc := 414) (a := 0) (b := 0) (d := 0) (w := 0) (sw := []) (cv := .null) lst_0 rfl ls o j h hj hn st Q
set_option maxRecDepth 20000 in
theorem k0_414 {σ : Sg} (ls : Lcl) (o : Nat) (a0 : Int32) (st : List Value) (h4 : le4 st = true) (h : sT σ o = 17) (M : Mem) (Q : Po) : wp 0 414 ls (.int a0 :: .ref o :: st) σ M Q = wp 137 0 [some (.ref o), some (.int a0)] [] σ M (fun r σ1 M1 => wp 0 417 ls (pushR r st) σ1 M1 Q) := x_callV (pc := 414) (npc := 417) (a := 137) (b := 0) (d := 17) (w := 944) (sw := []) (cv := .retAddr 2) lst_0 rfl ls (.int a0 :: .ref o :: st) rfl h4 rfl σ h M Q
set_option maxRecDepth 20000 in
theorem k0_417 (ls : Lcl) (x y : Int32) (st : List Value) (σ : Sg) (M : Mem) (Q : Po) : wp 0 417 ls (.int y :: .int x :: st) σ M Q = if x = y then wp 0 678 ls st σ M Q else wp 0 420 ls st σ M Q := x_icmp_eq (pc := 417) (npc := 420) (a := 678) (b := 0) (d := 0) (w := 0) (sw := []) (cv := .null) lst_0 rfl ls x y st σ M Q
set_option maxRecDepth 20000 in
theorem k0_420 (ls : Lcl) (st : List Value) (σ : Sg) (M : Mem) (Q : Po) : wp 0 420 ls st σ M Q = wp 0 421 ls (.int (nI 0) :: st) σ M Q := x_iconst (pc := 420) (npc := 421) (a := 0) (b := 0) (d := 0) (w := 0) (sw := []) (cv := .int (nI 0)) lst_0 rfl ls st σ M Q
set_option maxRecDepth 20000 in
theorem k0_421 (ls : Lcl) (x : Int32) (h : okR (.int (nI 1)) x = true) (σ : Sg) (M : Mem) (Q : Po) : wp 0 421 ls [.int x] σ M Q = Q (some (.int x)) σ M := x_ireturn (pc := 421) (npc := 422) (a := 0) (b := 0) (d := 0) (w := 0) (sw := []) (cv := .int (nI 1)) lst_0 rfl ls x h σ M Q
set_option maxRecDepth 20000 in
theorem k0_422 (l0 l2 l3 : Option Value) (x : Nat) (st : List Value) (σ : Sg) (M : Mem) (Q : Po) : wp 0 422 [l0, some (.ref x), l2, l3] st σ M Q = wp 0 423 [l0, some (.ref x), l2, l3] (.ref x :: st) σ M Q := x_aload_n (pc := 422) (npc := 423) (a := 0) (b := 0) (d := 0) (w := 0) (sw := []) (cv := .null) lst_0 rfl [l0, some (.ref x), l2, l3] x rfl st σ M Q
set_option maxRecDepth 20000 in
theorem k0_423 (l1 l2 l3 : Option Value) (x : Nat) (st : List Value) (σ : Sg) (M : Mem) (Q : Po) : wp 0 423 [some (.ref x), l1, l2, l3] st σ M Q = wp 0 424 [some (.ref x), l1, l2, l3] (.ref x :: st) σ M Q := x_aload_n (pc := 423) (npc := 424) (a := 0) (b := 0) (d := 0) (w := 0) (sw := []) (cv := .null) lst_0 rfl [some (.ref x), l1, l2, l3] x rfl st σ M Q
set_option maxRecDepth 20000 in
theorem k0_424 (l0 l1 l2 : Option Value) (x : Int32) (st : List Value) (σ : Sg) (M : Mem) (Q : Po) : wp 0 424 [l0, l1, l2, some (.int x)] st σ M Q = wp 0 425 [l0, l1, l2, some (.int x)] (.int x :: st) σ M Q := x_iload_n (pc := 424) (npc := 425) (a := 0) (b := 0) (d := 0) (w := 0) (sw := []) (cv := .null) lst_0 rfl [l0, l1, l2, some (.int x)] x rfl st σ M Q
set_option maxRecDepth 20000 in
theorem k0_425 (ls : Lcl) (st : List Value) (σ : Sg) (M : Mem) (Q : Po) : wp 0 425 ls st σ M Q = wp 0 426 ls (.int (nI 1) :: st) σ M Q := x_iconst (pc := 425) (npc := 426) (a := 0) (b := 0) (d := 0) (w := 0) (sw := []) (cv := .int (nI 1)) lst_0 rfl ls st σ M Q
set_option maxRecDepth 20000 in
theorem k0_426 (ls : Lcl) (x y : Int32) (st : List Value) (σ : Sg) (M : Mem) (Q : Po) : wp 0 426 ls (.int y :: .int x :: st) σ M Q = wp 0 427 ls (.int (x + y) :: st) σ M Q := x_iadd (pc := 426) (npc := 427) (a := 0) (b := 0) (d := 0) (w := 0) (sw := []) (cv := .null) lst_0 rfl ls x y st σ M Q
set_option maxRecDepth 20000 in
theorem k0_427 {σ : Sg} (ls : Lcl) (o j : Nat) (h : isI (sT σ o) = true) (hj : j < sL σ o) (hn : sL σ o < 1000000) (st : List Value) (M : Mem) (Q : Po) : wp 0 427 ls (.int (nI j) :: .ref o :: st) σ M Q = wp 0 428 ls (.int (M o j) :: st) σ M Q := x_iaload (pc := 427) (npc := 428) (a := 0) (b := 0) (d := 0) (w := 0) (sw := []) (cv := .null) lst_0 rfl ls o j h hj hn st Q
set_option maxRecDepth 20000 in
theorem k0_428 {σ : Sg} (ls : Lcl) (o : Nat) (a0 : Int32) (st : List Value) (h4 : le4 st = true) (h : sT σ o = 16) (M : Mem) (Q : Po) : wp 0 428 ls (.int a0 :: .ref o :: st) σ M Q = wp 12 0 [some (.ref o), some (.int a0)] [] σ M (fun r σ1 M1 => wp 0 431 ls (pushR r st) σ1 M1 Q) := x_callV (pc := 428) (npc := 431) (a := 12) (b := 0) (d := 16) (w := 556) (sw := []) (cv := .retAddr 2) lst_0 rfl ls (.int a0 :: .ref o :: st) rfl h4 rfl σ h M Q
set_option maxRecDepth 20000 in
theorem k0_431 (l0 l1 l3 : Option Value) (x : Nat) (st : List Value) (σ : Sg) (M : Mem) (Q : Po) : wp 0 431 [l0, l1, some (.ref x), l3] st σ M Q = wp 0 432 [l0, l1, some (.ref x), l3] (.ref x :: st) σ M Q := x_aload_n (pc := 431) (npc := 432) (a := 0) (b := 0) (d := 0) (w := 0) (sw := []) (cv := .null) lst_0 rfl [l0, l1, some (.ref x), l3] x rfl st σ M Q
set_option maxRecDepth 20000 in
theorem k0_432 (l1 l2 l3 : Option Value) (x : Nat) (st : List Value) (σ : Sg) (M : Mem) (Q : Po) : wp 0 432 [some (.ref x), l1, l2, l3] st σ M Q = wp 0 433 [some (.ref x), l1, l2, l3] (.ref x :: st) σ M Q := x_aload_n (pc := 432) (npc := 433) (a := 0) (b := 0) (d := 0) (w := 0) (sw := []) (cv := .null) lst_0 rfl [some (.ref x), l1, l2, l3] x rfl st σ M Q
set_option maxRecDepth 20000 in
theorem k0_433 (l0 l1 l2 : Option Value) (x : Int32) (st : List Value) (σ : Sg) (M : Mem) (Q : Po) : wp 0 433 [l0, l1, l2, some (.int x)] st σ M Q = wp 0 434 [l0, l1, l2, some (.int x)] (.int x :: st) σ M Q := x_iload_n (pc := 433) (npc := 434) (a := 0) (b := 0) (d := 0) (w := 0) (sw := []) (cv := .null) lst_0 rfl [l0, l1, l2, some (.int x)] x rfl st σ M Q
set_option maxRecDepth 20000 in
theorem k0_434 (ls : Lcl) (st : List Value) (σ : Sg) (M : Mem) (Q : Po) : wp 0 434 ls st σ M Q = wp 0 435 ls (.int (nI 1) :: st) σ M Q := x_iconst (pc := 434) (npc := 435) (a := 0) (b := 0) (d := 0) (w := 0) (sw := []) (cv := .int (nI 1)) lst_0 rfl ls st σ M Q
set_option maxRecDepth 20000 in
theorem k0_435 (ls : Lcl) (x y : Int32) (st : List Value) (σ : Sg) (M : Mem) (Q : Po) : wp 0 435 ls (.int y :: .int x :: st) σ M Q = wp 0 436 ls (.int (x + y) :: st) σ M Q := x_iadd (pc := 435) (npc := 436) (a := 0) (b := 0) (d := 0) (w := 0) (sw := []) (cv := .null) lst_0 rfl ls x y st σ M Q
set_option maxRecDepth 20000 in
theorem k0_436 {σ : Sg} (ls : Lcl) (o j : Nat) (h : isI (sT σ o) = true) (hj : j < sL σ o) (hn : sL σ o < 1000000) (st : List Value) (M : Mem) (Q : Po) : wp 0 436 ls (.int (nI j) :: .ref o :: st) σ M Q = wp 0 437 ls (.int (M o j) :: st) σ M Q := x_iaload (pc := 436) (npc := 437) (a := 0) (b := 0) (d := 0) (w := 0) (sw := []) (cv := .null) lst_0 rfl ls o j h hj hn st Q
set_option maxRecDepth 20000 in
theorem k0_437 {σ : Sg} (ls : Lcl) (o : Nat) (a0 : Int32) (st : List Value) (h4 : le4 st = true) (h : sT σ o = 17) (M : Mem) (Q : Po) : wp 0 437 ls (.int a0 :: .ref o :: st) σ M Q = wp 138 0 [some (.ref o), some (.int a0)] [] σ M (fun r σ1 M1 => wp 0 440 ls (pushR r st) σ1 M1 Q) := x_callV (pc := 437) (npc := 440) (a := 138) (b := 0) (d := 17) (w := 948) (sw := []) (cv := .retAddr 2) lst_0 rfl ls (.int a0 :: .ref o :: st) rfl h4 rfl σ h M Q
set_option maxRecDepth 20000 in
theorem k0_440 (ls : Lcl) (x y : Int32) (st : List Value) (σ : Sg) (M : Mem) (Q : Po) : wp 0 440 ls (.int y :: .int x :: st) σ M Q = if x = y then wp 0 678 ls st σ M Q else wp 0 443 ls st σ M Q := x_icmp_eq (pc := 440) (npc := 443) (a := 678) (b := 0) (d := 0) (w := 0) (sw := []) (cv := .null) lst_0 rfl ls x y st σ M Q
set_option maxRecDepth 20000 in
theorem k0_443 (ls : Lcl) (st : List Value) (σ : Sg) (M : Mem) (Q : Po) : wp 0 443 ls st σ M Q = wp 0 444 ls (.int (nI 0) :: st) σ M Q := x_iconst (pc := 443) (npc := 444) (a := 0) (b := 0) (d := 0) (w := 0) (sw := []) (cv := .int (nI 0)) lst_0 rfl ls st σ M Q
set_option maxRecDepth 20000 in
theorem k0_444 (ls : Lcl) (x : Int32) (h : okR (.int (nI 1)) x = true) (σ : Sg) (M : Mem) (Q : Po) : wp 0 444 ls [.int x] σ M Q = Q (some (.int x)) σ M := x_ireturn (pc := 444) (npc := 445) (a := 0) (b := 0) (d := 0) (w := 0) (sw := []) (cv := .int (nI 1)) lst_0 rfl ls x h σ M Q
set_option maxRecDepth 20000 in
theorem k0_445 (l0 l2 l3 : Option Value) (x : Nat) (st : List Value) (σ : Sg) (M : Mem) (Q : Po) : wp 0 445 [l0, some (.ref x), l2, l3] st σ M Q = wp 0 446 [l0, some (.ref x), l2, l3] (.ref x :: st) σ M Q := x_aload_n (pc := 445) (npc := 446) (a := 0) (b := 0) (d := 0) (w := 0) (sw := []) (cv := .null) lst_0 rfl [l0, some (.ref x), l2, l3] x rfl st σ M Q
set_option maxRecDepth 20000 in
theorem k0_446 (l1 l2 l3 : Option Value) (x : Nat) (st : List Value) (σ : Sg) (M : Mem) (Q : Po) : wp 0 446 [some (.ref x), l1, l2, l3] st σ M Q = wp 0 447 [some (.ref x), l1, l2, l3] (.ref x :: st) σ M Q := x_aload_n (pc := 446) (npc := 447) (a := 0) (b := 0) (d := 0) (w := 0) (sw := []) (cv := .null) lst_0 rfl [some (.ref x), l1, l2, l3] x rfl st σ M Q
set_option maxRecDepth 20000 in
theorem k0_447 (l0 l1 l2 : Option Value) (x : Int32) (st : List Value) (σ : Sg) (M : Mem) (Q : Po) : wp 0 447 [l0, l1, l2, some (.int x)] st σ M Q = wp 0 448 [l0, l1, l2, some (.int x)] (.int x :: st) σ M Q := x_iload_n (pc := 447) (npc := 448) (a := 0) (b := 0) (d := 0) (w := 0) (sw := []) (cv := .null) lst_0 rfl [l0, l1, l2, some (.int x)] x rfl st σ M Q
set_option maxRecDepth 20000 in
theorem k0_448 (ls : Lcl) (st : List Value) (σ : Sg) (M : Mem) (Q : Po) : wp 0 448 ls st σ M Q = wp 0 449 ls (.int (nI 1) :: st) σ M Q := x_iconst (pc := 448) (npc := 449) (a := 0) (b := 0) (d := 0) (w := 0) (sw := []) (cv := .int (nI 1)) lst_0 rfl ls st σ M Q
set_option maxRecDepth 20000 in
theorem k0_449 (ls : Lcl) (x y : Int32) (st : List Value) (σ : Sg) (M : Mem) (Q : Po) : wp 0 449 ls (.int y :: .int x :: st) σ M Q = wp 0 450 ls (.int (x + y) :: st) σ M Q := x_iadd (pc := 449) (npc := 450) (a := 0) (b := 0) (d := 0) (w := 0) (sw := []) (cv := .null) lst_0 rfl ls x y st σ M Q
set_option maxRecDepth 20000 in
theorem k0_450 {σ : Sg} (ls : Lcl) (o j : Nat) (h : isI (sT σ o) = true) (hj : j < sL σ o) (hn : sL σ o < 1000000) (st : List Value) (M : Mem) (Q : Po) : wp 0 450 ls (.int (nI j) :: .ref o :: st) σ M Q = wp 0 451 ls (.int (M o j) :: st) σ M Q := x_iaload (pc := 450) (npc := 451) (a := 0) (b := 0) (d := 0) (w := 0) (sw := []) (cv := .null) lst_0 rfl ls o j h hj hn st Q
set_option maxRecDepth 20000 in
theorem k0_451 (l1 l2 l3 : Option Value) (x : Nat) (st : List Value) (σ : Sg) (M : Mem) (Q : Po) : wp 0 451 [some (.ref x), l1, l2, l3] st σ M Q = wp 0 452 [some (.ref x), l1, l2, l3] (.ref x :: st) σ M Q := x_aload_n (pc := 451) (npc := 452) (a := 0) (b := 0) (d := 0) (w := 0) (sw := []) (cv := .null) lst_0 rfl [some (.ref x), l1, l2, l3] x rfl st σ M Q
set_option maxRecDepth 20000 in
theorem k0_452 (l0 l1 l2 : Option Value) (x : Int32) (st : List Value) (σ : Sg) (M : Mem) (Q : Po) : wp 0 452 [l0, l1, l2, some (.int x)] st σ M Q = wp 0 453 [l0, l1, l2, some (.int x)] (.int x :: st) σ M Q := x_iload_n (pc := 452) (npc := 453) (a := 0) (b := 0) (d := 0) (w := 0) (sw := []) (cv := .null) lst_0 rfl [l0, l1, l2, some (.int x)] x rfl st σ M Q
set_option maxRecDepth 20000 in
theorem k0_453 (ls : Lcl) (st : List Value) (σ : Sg) (M : Mem) (Q : Po) : wp 0 453 ls st σ M Q = wp 0 454 ls (.int (nI 2) :: st) σ M Q := x_iconst (pc := 453) (npc := 454) (a := 0) (b := 0) (d := 0) (w := 0) (sw := []) (cv := .int (nI 2)) lst_0 rfl ls st σ M Q
set_option maxRecDepth 20000 in
theorem k0_454 (ls : Lcl) (x y : Int32) (st : List Value) (σ : Sg) (M : Mem) (Q : Po) : wp 0 454 ls (.int y :: .int x :: st) σ M Q = wp 0 455 ls (.int (x + y) :: st) σ M Q := x_iadd (pc := 454) (npc := 455) (a := 0) (b := 0) (d := 0) (w := 0) (sw := []) (cv := .null) lst_0 rfl ls x y st σ M Q
set_option maxRecDepth 20000 in
theorem k0_455 {σ : Sg} (ls : Lcl) (o j : Nat) (h : isI (sT σ o) = true) (hj : j < sL σ o) (hn : sL σ o < 1000000) (st : List Value) (M : Mem) (Q : Po) : wp 0 455 ls (.int (nI j) :: .ref o :: st) σ M Q = wp 0 456 ls (.int (M o j) :: st) σ M Q := x_iaload (pc := 455) (npc := 456) (a := 0) (b := 0) (d := 0) (w := 0) (sw := []) (cv := .null) lst_0 rfl ls o j h hj hn st Q
set_option maxRecDepth 20000 in
theorem k0_456 {σ : Sg} (ls : Lcl) (o : Nat) (a0 : Int32) (a1 : Int32) (st : List Value) (h4 : le4 st = true) (h : sT σ o = 16) (M : Mem) (Q : Po) : wp 0 456 ls (.int a1 :: .int a0 :: .ref o :: st) σ M Q = wp 13 0 [some (.ref o), some (.int a0), some (.int a1), none] [] σ M (fun r σ1 M1 => wp 0 459 ls (pushR r st) σ1 M1 Q) := x_callV (pc := 456) (npc := 459) (a := 13) (b := 1) (d := 16) (w := 561) (sw := []) (cv := .retAddr 3) lst_0 rfl ls (.int a1 :: .int a0 :: .ref o :: st) rfl h4 rfl σ h M Q
set_option maxRecDepth 20000 in
theorem k0_459 (l0 l1 l3 : Option Value) (x : Nat) (st : List Value) (σ : Sg) (M : Mem) (Q : Po) : wp 0 459 [l0, l1, some (.ref x), l3] st σ M Q = wp 0 460 [l0, l1, some (.ref x), l3] (.ref x :: st) σ M Q := x_aload_n (pc := 459) (npc := 460) (a := 0) (b := 0) (d := 0) (w := 0) (sw := []) (cv := .null) lst_0 rfl [l0, l1, some (.ref x), l3] x rfl st σ M Q
set_option maxRecDepth 20000 in
theorem k0_460 (l1 l2 l3 : Option Value) (x : Nat) (st : List Value) (σ : Sg) (M : Mem) (Q : Po) : wp 0 460 [some (.ref x), l1, l2, l3] st σ M Q = wp 0 461 [some (.ref x), l1, l2, l3] (.ref x :: st) σ M Q := x_aload_n (pc := 460) (npc := 461) (a := 0) (b := 0) (d := 0) (w := 0) (sw := []) (cv := .null) lst_0 rfl [some (.ref x), l1, l2, l3] x rfl st σ M Q
set_option maxRecDepth 20000 in
theorem k0_461 (l0 l1 l2 : Option Value) (x : Int32) (st : List Value) (σ : Sg) (M : Mem) (Q : Po) : wp 0 461 [l0, l1, l2, some (.int x)] st σ M Q = wp 0 462 [l0, l1, l2, some (.int x)] (.int x :: st) σ M Q := x_iload_n (pc := 461) (npc := 462) (a := 0) (b := 0) (d := 0) (w := 0) (sw := []) (cv := .null) lst_0 rfl [l0, l1, l2, some (.int x)] x rfl st σ M Q
set_option maxRecDepth 20000 in
theorem k0_462 (ls : Lcl) (st : List Value) (σ : Sg) (M : Mem) (Q : Po) : wp 0 462 ls st σ M Q = wp 0 463 ls (.int (nI 1) :: st) σ M Q := x_iconst (pc := 462) (npc := 463) (a := 0) (b := 0) (d := 0) (w := 0) (sw := []) (cv := .int (nI 1)) lst_0 rfl ls st σ M Q
set_option maxRecDepth 20000 in
theorem k0_463 (ls : Lcl) (x y : Int32) (st : List Value) (σ : Sg) (M : Mem) (Q : Po) : wp 0 463 ls (.int y :: .int x :: st) σ M Q = wp 0 464 ls (.int (x + y) :: st) σ M Q := x_iadd (pc := 463) (npc := 464) (a := 0) (b := 0) (d := 0) (w := 0) (sw := []) (cv := .null) lst_0 rfl ls x y st σ M Q
set_option maxRecDepth 20000 in
theorem k0_464 {σ : Sg} (ls : Lcl) (o j : Nat) (h : isI (sT σ o) = true) (hj : j < sL σ o) (hn : sL σ o < 1000000) (st : List Value) (M : Mem) (Q : Po) : wp 0 464 ls (.int (nI j) :: .ref o :: st) σ M Q = wp 0 465 ls (.int (M o j) :: st) σ M Q := x_iaload (pc := 464) (npc := 465) (a := 0) (b := 0) (d := 0) (w := 0) (sw := []) (cv := .null) lst_0 rfl ls o j h hj hn st Q
set_option maxRecDepth 20000 in
theorem k0_465 (l1 l2 l3 : Option Value) (x : Nat) (st : List Value) (σ : Sg) (M : Mem) (Q : Po) : wp 0 465 [some (.ref x), l1, l2, l3] st σ M Q = wp 0 466 [some (.ref x), l1, l2, l3] (.ref x :: st) σ M Q := x_aload_n (pc := 465) (npc := 466) (a := 0) (b := 0) (d := 0) (w := 0) (sw := []) (cv := .null) lst_0 rfl [some (.ref x), l1, l2, l3] x rfl st σ M Q
set_option maxRecDepth 20000 in
theorem k0_466 (l0 l1 l2 : Option Value) (x : Int32) (st : List Value) (σ : Sg) (M : Mem) (Q : Po) : wp 0 466 [l0, l1, l2, some (.int x)] st σ M Q = wp 0 467 [l0, l1, l2, some (.int x)] (.int x :: st) σ M Q := x_iload_n (pc := 466) (npc := 467) (a := 0) (b := 0) (d := 0) (w := 0) (sw := []) (cv := .null) lst_0 rfl [l0, l1, l2, some (.int x)] x rfl st σ M Q
set_option maxRecDepth 20000 in
theorem k0_467 (ls : Lcl) (st : List Value) (σ : Sg) (M : Mem) (Q : Po) : wp 0 467 ls st σ M Q = wp 0 468 ls (.int (nI 2) :: st) σ M Q := x_iconst (pc := 467) (npc := 468) (a := 0) (b := 0) (d := 0) (w := 0) (sw := []) (cv := .int (nI 2)) lst_0 rfl ls st σ M Q
set_option maxRecDepth 20000 in
theorem k0_468 (ls : Lcl) (x y : Int32) (st : List Value) (σ : Sg) (M : Mem) (Q : Po) : wp 0 468 ls (.int y :: .int x :: st) σ M Q = wp 0 469 ls (.int (x + y) :: st) σ M Q := x_iadd (pc := 468) (npc := 469) (a := 0) (b := 0) (d := 0) (w := 0) (sw := []) (cv := .null) lst_0 rfl ls x y st σ M Q
set_option maxRecDepth 20000 in
theorem k0_469 {σ : Sg} (ls : Lcl) (o j : Nat) (h : isI (sT σ o) = true) (hj : j < sL σ o) (hn : sL σ o < 1000000) (st : List Value) (M : Mem) (Q : Po) : wp 0 469 ls (.int (nI j) :: .ref o :: st) σ M Q = wp 0 470 ls (.int (M o j) :: st) σ M Q := x_iaload (pc := 469) (npc := 470) (a := 0) (b := 0) (d := 0) (w := 0) (sw := []) (cv := .null) lst_0 rfl ls o j h hj hn st Q
set_option maxRecDepth 20000 in
theorem k0_470 {σ : Sg} (ls : Lcl) (o : Nat) (a0 : Int32) (a1 : Int32) (st : List Value) (h4 : le4 st = true) (h : sT σ o = 17) (M : Mem) (Q : Po) : wp 0 470 ls (.int a1 :: .int a0 :: .ref o :: st) σ M Q = wp 139 0 [some (.ref o), some (.int a0), some (.int a1), none, none] [] σ M (fun r σ1 M1 => wp 0 473 ls (pushR r st) σ1 M1 Q) := x_callV (pc := 470) (npc := 473) (a := 139) (b := 2) (d := 17) (w := 952) (sw := []) (cv := .retAddr 3) lst_0 rfl ls (.int a1 :: .int a0 :: .ref o :: st) rfl h4 rfl σ h M Q
set_option maxRecDepth 20000 in
theorem k0_473 (ls : Lcl) (x y : Int32) (st : List Value) (σ : Sg) (M : Mem) (Q : Po) : wp 0 473 ls (.int y :: .int x :: st) σ M Q = if x = y then wp 0 678 ls st σ M Q else wp 0 476 ls st σ M Q := x_icmp_eq (pc := 473) (npc := 476) (a := 678) (b := 0) (d := 0) (w := 0) (sw := []) (cv := .null) lst_0 rfl ls x y st σ M Q
set_option maxRecDepth 20000 in
theorem k0_476 (ls : Lcl) (st : List Value) (σ : Sg) (M : Mem) (Q : Po) : wp 0 476 ls st σ M Q = wp 0 477 ls (.int (nI 0) :: st) σ M Q := x_iconst (pc := 476) (npc := 477) (a := 0) (b := 0) (d := 0) (w := 0) (sw := []) (cv := .int (nI 0)) lst_0 rfl ls st σ M Q
set_option maxRecDepth 20000 in
theorem k0_477 (ls : Lcl) (x : Int32) (h : okR (.int (nI 1)) x = true) (σ : Sg) (M : Mem) (Q : Po) : wp 0 477 ls [.int x] σ M Q = Q (some (.int x)) σ M := x_ireturn (pc := 477) (npc := 478) (a := 0) (b := 0) (d := 0) (w := 0) (sw := []) (cv := .int (nI 1)) lst_0 rfl ls x h σ M Q
set_option maxRecDepth 20000 in
theorem k0_478 (l0 l2 l3 : Option Value) (x : Nat) (st : List Value) (σ : Sg) (M : Mem) (Q : Po) : wp 0 478 [l0, some (.ref x), l2, l3] st σ M Q = wp 0 479 [l0, some (.ref x), l2, l3] (.ref x :: st) σ M Q := x_aload_n (pc := 478) (npc := 479) (a := 0) (b := 0) (d := 0) (w := 0) (sw := []) (cv := .null) lst_0 rfl [l0, some (.ref x), l2, l3] x rfl st σ M Q
set_option maxRecDepth 20000 in
theorem k0_479 (l1 l2 l3 : Option Value) (x : Nat) (st : List Value) (σ : Sg) (M : Mem) (Q : Po) : wp 0 479 [some (.ref x), l1, l2, l3] st σ M Q = wp 0 480 [some (.ref x), l1, l2, l3] (.ref x :: st) σ M Q := x_aload_n (pc := 479) (npc := 480) (a := 0) (b := 0) (d := 0) (w := 0) (sw := []) (cv := .null) lst_0 rfl [some (.ref x), l1, l2, l3] x rfl st σ M Q
set_option maxRecDepth 20000 in
theorem k0_480 (l0 l1 l2 : Option Value) (x : Int32) (st : List Value) (σ : Sg) (M : Mem) (Q : Po) : wp 0 480 [l0, l1, l2, some (.int x)] st σ M Q = wp 0 481 [l0, l1, l2, some (.int x)] (.int x :: st) σ M Q := x_iload_n (pc := 480) (npc := 481) (a := 0) (b := 0) (d := 0) (w := 0) (sw := []) (cv := .null) lst_0 rfl [l0, l1, l2, some (.int x)] x rfl st σ M Q
set_option maxRecDepth 20000 in
theorem k0_481 (ls : Lcl) (st : List Value) (σ : Sg) (M : Mem) (Q : Po) : wp 0 481 ls st σ M Q = wp 0 482 ls (.int (nI 1) :: st) σ M Q := x_iconst (pc := 481) (npc := 482) (a := 0) (b := 0) (d := 0) (w := 0) (sw := []) (cv := .int (nI 1)) lst_0 rfl ls st σ M Q
set_option maxRecDepth 20000 in
theorem k0_482 (ls : Lcl) (x y : Int32) (st : List Value) (σ : Sg) (M : Mem) (Q : Po) : wp 0 482 ls (.int y :: .int x :: st) σ M Q = wp 0 483 ls (.int (x + y) :: st) σ M Q := x_iadd (pc := 482) (npc := 483) (a := 0) (b := 0) (d := 0) (w := 0) (sw := []) (cv := .null) lst_0 rfl ls x y st σ M Q
set_option maxRecDepth 20000 in
theorem k0_483 {σ : Sg} (ls : Lcl) (o j : Nat) (h : isI (sT σ o) = true) (hj : j < sL σ o) (hn : sL σ o < 1000000) (st : List Value) (M : Mem) (Q : Po) : wp 0 483 ls (.int (nI j) :: .ref o :: st) σ M Q = wp 0 484 ls (.int (M o j) :: st) σ M Q := x_iaload (pc := 483) (npc := 484) (a := 0) (b := 0) (d := 0) (w := 0) (sw := []) (cv := .null) lst_0 rfl ls o j h hj hn st Q
set_option maxRecDepth 20000 in
theorem k0_484 {σ : Sg} (ls : Lcl) (o : Nat) (a0 : Int32) (st : List Value) (h4 : le4 st = true) (h : sT σ o = 16) (M : Mem) (Q : Po) : wp 0 484 ls (.int a0 :: .ref o :: st) σ M Q = wp 14 0 [some (.ref o), some (.int a0)] [] σ M (fun r σ1 M1 => wp 0 487 ls (pushR r st) σ1 M1 Q) := x_callV (pc := 484) (npc := 487) (a := 14) (b := 0) (d := 16) (w := 575) (sw := []) (cv := .retAddr 2) lst_0 rfl ls (.int a0 :: .ref o :: st) rfl h4 rfl σ h M Q
set_option maxRecDepth 20000 in
theorem k0_487 (l0 l1 l3 : Option Value) (x : Nat) (st : List Value) (σ : Sg) (M : Mem) (Q : Po) : wp 0 487 [l0, l1, some (.ref x), l3] st σ M Q = wp 0 488 [l0, l1, some (.ref x), l3] (.ref x :: st) σ M Q := x_aload_n (pc := 487) (npc := 488) (a := 0) (b := 0) (d := 0) (w := 0) (sw := []) (cv := .null) lst_0 rfl [l0, l1, some (.ref x), l3] x rfl st σ M Q
set_option maxRecDepth 20000 in
theorem k0_488 (l1 l2 l3 : Option Value) (x : Nat) (st : List Value) (σ : Sg) (M : Mem) (Q : Po) : wp 0 488 [some (.ref x), l1, l2, l3] st σ M Q = wp 0 489 [some (.ref x), l1, l2, l3] (.ref x :: st) σ M Q := x_aload_n (pc := 488) (npc := 489) (a := 0) (b := 0) (d := 0) (w := 0) (sw := []) (cv := .null) lst_0 rfl [some (.ref x), l1, l2, l3] x rfl st σ M Q
set_option maxRecDepth 20000 in
theorem k0_489 (l0 l1 l2 : Option Value) (x : Int32) (st : List Value) (σ : Sg) (M : Mem) (Q : Po) : wp 0 489 [l0, l1, l2, some (.int x)] st σ M Q = wp 0 490 [l0, l1, l2, some (.int x)] (.int x :: st) σ M Q := x_iload_n (pc := 489) (npc := 490) (a := 0) (b := 0) (d := 0) (w := 0) (sw := []) (cv := .null) lst_0 rfl [l0, l1, l2, some (.int x)] x rfl st σ M Q
set_option maxRecDepth 20000 in
theorem k0_490 (ls : Lcl) (st : List Value) (σ : Sg) (M : Mem) (Q : Po) : wp 0 490 ls st σ M Q = wp 0 491 ls (.int (nI 1) :: st) σ M Q := x_iconst (pc := 490) (npc := 491) (a := 0) (b := 0) (d := 0) (w := 0) (sw := []) (cv := .int (nI 1)) lst_0 rfl ls st σ M Q
set_option maxRecDepth 20000 in
theorem k0_491 (ls : Lcl) (x y : Int32) (st : List Value) (σ : Sg) (M : Mem) (Q : Po) : wp 0 491 ls (.int y :: .int x :: st) σ M Q = wp 0 492 ls (.int (x + y) :: st) σ M Q := x_iadd (pc := 491) (npc := 492) (a := 0) (b := 0) (d := 0) (w := 0) (sw := []) (cv := .null) lst_0 rfl ls x y st σ M Q
set_option maxRecDepth 20000 in
theorem k0_492 {σ : Sg} (ls : Lcl) (o j : Nat) (h : isI (sT σ o) = true) (hj : j < sL σ o) (hn : sL σ o < 1000000) (st : List Value) (M : Mem) (Q : Po) : wp 0 492 ls (.int (nI j) :: .ref o :: st) σ M Q = wp 0 493 ls (.int (M o j) :: st) σ M Q := x_iaload (pc := 492) (npc := 493) (a := 0) (b := 0) (d := 0) (w := 0) (sw := []) (cv := .null) lst_0 rfl ls o j h hj hn st Q
set_option maxRecDepth 20000 in
theorem k0_493 {σ : Sg} (ls : Lcl) (o : Nat) (a0 : Int32) (st : List Value) (h4 : le4 st = true) (h : sT σ o = 17) (M : Mem) (Q : Po) : wp 0 493 ls (.int a0 :: .ref o :: st) σ M Q = wp 142 0 [some (.ref o), some (.int a0), none, none] [] σ M (fun r σ1 M1 => wp 0 496 ls (pushR r st) σ1 M1 Q) := x_callV (pc := 493) (npc := 496) (a := 142) (b := 2) (d := 17) (w := 966) (sw := []) (cv := .retAddr 2) lst_0 rfl ls (.int a0 :: .ref o :: st) rfl h4 rfl σ h M Q
set_option maxRecDepth 20000 in
theorem k0_496 (ls : Lcl) (x y : Int32) (st : List Value) (σ : Sg) (M : Mem) (Q : Po) : wp 0 496 ls (.int y :: .int x :: st) σ M Q = if x = y then wp 0 678 ls st σ M Q else wp 0 499 ls st σ M Q := x_icmp_eq (pc := 496) (npc := 499) (a := 678) (b := 0) (d := 0) (w := 0) (sw := []) (cv := .null) lst_0 rfl ls x y st σ M Q
set_option maxRecDepth 20000 in
theorem k0_499 (ls : Lcl) (st : List Value) (σ : Sg) (M : Mem) (Q : Po) : wp 0 499 ls st σ M Q = wp 0 500 ls (.int (nI 0) :: st) σ M Q := x_iconst (pc := 499) (npc := 500) (a := 0) (b := 0) (d := 0) (w := 0) (sw := []) (cv := .int (nI 0)) lst_0 rfl ls st σ M Q
set_option maxRecDepth 20000 in
theorem k0_500 (ls : Lcl) (x : Int32) (h : okR (.int (nI 1)) x = true) (σ : Sg) (M : Mem) (Q : Po) : wp 0 500 ls [.int x] σ M Q = Q (some (.int x)) σ M := x_ireturn (pc := 500) (npc := 501) (a := 0) (b := 0) (d := 0) (w := 0) (sw := []) (cv := .int (nI 1)) lst_0 rfl ls x h σ M Q
set_option maxRecDepth 20000 in
theorem k0_501 (l0 l2 l3 : Option Value) (x : Nat) (st : List Value) (σ : Sg) (M : Mem) (Q : Po) : wp 0 501 [l0, some (.ref x), l2, l3] st σ M Q = wp 0 502 [l0, some (.ref x), l2, l3] (.ref x :: st) σ M Q := x_aload_n (pc := 501) (npc := 502) (a := 0) (b := 0) (d := 0) (w := 0) (sw := []) (cv := .null) lst_0 rfl [l0, some (.ref x), l2, l3] x rfl st σ M Q
set_option maxRecDepth 20000 in
theorem k0_502 {σ : Sg} (ls : Lcl) (o : Nat) (st : List Value) (h4 : le4 st = true) (h : sT σ o = 16) (M : Mem) (Q : Po) : wp 0 502 ls (.ref o :: st) σ M Q = wp 15 0 [some (.ref o), none] [] σ M (fun r σ1 M1 => wp 0 505 ls (pushR r st) σ1 M1 Q) := x_callV (pc := 502) (npc := 505) (a := 15) (b := 1) (d := 16) (w := 599) (sw := []) (cv := .retAddr 1) lst_0 rfl ls (.ref o :: st) rfl h4 rfl σ h M Q
set_option maxRecDepth 20000 in
theorem k0_505 (l0 l1 l3 : Option Value) (x : Nat) (st : List Value) (σ : Sg) (M : Mem) (Q : Po) : wp 0 505 [l0, l1, some (.ref x), l3] st σ M Q = wp 0 506 [l0, l1, some (.ref x), l3] (.ref x :: st) σ M Q := x_aload_n (pc := 505) (npc := 506) (a := 0) (b := 0) (d := 0) (w := 0) (sw := []) (cv := .null) lst_0 rfl [l0, l1, some (.ref x), l3] x rfl st σ M Q
set_option maxRecDepth 20000 in
theorem k0_506 {σ : Sg} (ls : Lcl) (o : Nat) (st : List Value) (h4 : le4 st = true) (h : sT σ o = 17) (M : Mem) (Q : Po) : wp 0 506 ls (.ref o :: st) σ M Q = wp 143 0 [some (.ref o), none] [] σ M (fun r σ1 M1 => wp 0 509 ls (pushR r st) σ1 M1 Q) := x_callV (pc := 506) (npc := 509) (a := 143) (b := 1) (d := 17) (w := 978) (sw := []) (cv := .retAddr 1) lst_0 rfl ls (.ref o :: st) rfl h4 rfl σ h M Q
set_option maxRecDepth 20000 in
theorem k0_509 (ls : Lcl) (x y : Int32) (st : List Value) (σ : Sg) (M : Mem) (Q : Po) : wp 0 509 ls (.int y :: .int x :: st) σ M Q = if x = y then wp 0 678 ls st σ M Q else wp 0 512 ls st σ M Q := x_icmp_eq (pc := 509) (npc := 512) (a := 678) (b := 0) (d := 0) (w := 0) (sw := []) (cv := .null) lst_0 rfl ls x y st σ M Q
set_option maxRecDepth 20000 in
theorem k0_512 (ls : Lcl) (st : List Value) (σ : Sg) (M : Mem) (Q : Po) : wp 0 512 ls st σ M Q = wp 0 513 ls (.int (nI 0) :: st) σ M Q := x_iconst (pc := 512) (npc := 513) (a := 0) (b := 0) (d := 0) (w := 0) (sw := []) (cv := .int (nI 0)) lst_0 rfl ls st σ M Q
set_option maxRecDepth 20000 in
theorem k0_513 (ls : Lcl) (x : Int32) (h : okR (.int (nI 1)) x = true) (σ : Sg) (M : Mem) (Q : Po) : wp 0 513 ls [.int x] σ M Q = Q (some (.int x)) σ M := x_ireturn (pc := 513) (npc := 514) (a := 0) (b := 0) (d := 0) (w := 0) (sw := []) (cv := .int (nI 1)) lst_0 rfl ls x h σ M Q
set_option maxRecDepth 20000 in
theorem k0_514 (l0 l2 l3 : Option Value) (x : Nat) (st : List Value) (σ : Sg) (M : Mem) (Q : Po) : wp 0 514 [l0, some (.ref x), l2, l3] st σ M Q = wp 0 515 [l0, some (.ref x), l2, l3] (.ref x :: st) σ M Q := x_aload_n (pc := 514) (npc := 515) (a := 0) (b := 0) (d := 0) (w := 0) (sw := []) (cv := .null) lst_0 rfl [l0, some (.ref x), l2, l3] x rfl st σ M Q
set_option maxRecDepth 20000 in
theorem k0_515 (l1 l2 l3 : Option Value) (x : Nat) (st : List Value) (σ : Sg) (M : Mem) (Q : Po) : wp 0 515 [some (.ref x), l1, l2, l3] st σ M Q = wp 0 516 [some (.ref x), l1, l2, l3] (.ref x :: st) σ M Q := x_aload_n (pc := 515) (npc := 516) (a := 0) (b := 0) (d := 0) (w := 0) (sw := []) (cv := .null) lst_0 rfl [some (.ref x), l1, l2, l3] x rfl st σ M Q
set_option maxRecDepth 20000 in
theorem k0_516 (l0 l1 l2 : Option Value) (x : Int32) (st : List Value) (σ : Sg) (M : Mem) (Q : Po) : wp 0 516 [l0, l1, l2, some (.int x)] st σ M Q = wp 0 517 [l0, l1, l2, some (.int x)] (.int x :: st) σ M Q := x_iload_n (pc := 516) (npc := 517) (a := 0) (b := 0) (d := 0) (w := 0) (sw := []) (cv := .null) lst_0 rfl [l0, l1, l2, some (.int x)] x rfl st σ M Q
set_option maxRecDepth 20000 in
theorem k0_517 (ls : Lcl) (st : List Value) (σ : Sg) (M : Mem) (Q : Po) : wp 0 517 ls st σ M Q = wp 0 518 ls (.int (nI 1) :: st) σ M Q := x_iconst (pc := 517) (npc := 518) (a := 0) (b := 0) (d := 0) (w := 0) (sw := []) (cv := .int (nI 1)) lst_0 rfl ls st σ M Q
set_option maxRecDepth 20000 in
theorem k0_518 (ls : Lcl) (x y : Int32) (st : List Value) (σ : Sg) (M : Mem) (Q : Po) : wp 0 518 ls (.int y :: .int x :: st) σ M Q = wp 0 519 ls (.int (x + y) :: st) σ M Q := x_iadd (pc := 518) (npc := 519) (a := 0) (b := 0) (d := 0) (w := 0) (sw := []) (cv := .null) lst_0 rfl ls x y st σ M Q
set_option maxRecDepth 20000 in
theorem k0_519 {σ : Sg} (ls : Lcl) (o j : Nat) (h : isI (sT σ o) = true) (hj : j < sL σ o) (hn : sL σ o < 1000000) (st : List Value) (M : Mem) (Q : Po) : wp 0 519 ls (.int (nI j) :: .ref o :: st) σ M Q = wp 0 520 ls (.int (M o j) :: st) σ M Q := x_iaload (pc := 519) (npc := 520) (a := 0) (b := 0) (d := 0) (w := 0) (sw := []) (cv := .null) lst_0 rfl ls o j h hj hn st Q
set_option maxRecDepth 20000 in
theorem k0_520 {σ : Sg} (ls : Lcl) (o : Nat) (a0 : Int32) (st : List Value) (h4 : le4 st = true) (h : sT σ o = 16) (M : Mem) (Q : Po) : wp 0 520 ls (.int a0 :: .ref o :: st) σ M Q = wp 16 0 [some (.ref o), some (.int a0), none] [] σ M (fun r σ1 M1 => wp 0 523 ls (pushR r st) σ1 M1 Q) := x_callV (pc := 520) (npc := 523) (a := 16) (b := 1) (d := 16) (w := 603) (sw := []) (cv := .retAddr 2) lst_0 rfl ls (.int a0 :: .ref o :: st) rfl h4 rfl σ h M Q
set_option maxRecDepth 20000 in
theorem k0_523 (l0 l1 l3 : Option Value) (x : Nat) (st : List Value) (σ : Sg) (M : Mem) (Q : Po) : wp 0 523 [l0, l1, some (.ref x), l3] st σ M Q = wp 0 524 [l0, l1, some (.ref x), l3] (.ref x :: st) σ M Q := x_aload_n (pc := 523) (npc := 524) (a := 0) (b := 0) (d := 0) (w := 0) (sw := []) (cv := .null) lst_0 rfl [l0, l1, some (.ref x), l3] x rfl st σ M Q
set_option maxRecDepth 20000 in
theorem k0_524 (l1 l2 l3 : Option Value) (x : Nat) (st : List Value) (σ : Sg) (M : Mem) (Q : Po) : wp 0 524 [some (.ref x), l1, l2, l3] st σ M Q = wp 0 525 [some (.ref x), l1, l2, l3] (.ref x :: st) σ M Q := x_aload_n (pc := 524) (npc := 525) (a := 0) (b := 0) (d := 0) (w := 0) (sw := []) (cv := .null) lst_0 rfl [some (.ref x), l1, l2, l3] x rfl st σ M Q
set_option maxRecDepth 20000 in
theorem k0_525 (l0 l1 l2 : Option Value) (x : Int32) (st : List Value) (σ : Sg) (M : Mem) (Q : Po) : wp 0 525 [l0, l1, l2, some (.int x)] st σ M Q = wp 0 526 [l0, l1, l2, some (.int x)] (.int x :: st) σ M Q := x_iload_n (pc := 525) (npc := 526) (a := 0) (b := 0) (d := 0) (w := 0) (sw := []) (cv := .null) lst_0 rfl [l0, l1, l2, some (.int x)] x rfl st σ M Q
set_option maxRecDepth 20000 in
theorem k0_526 (ls : Lcl) (st : List Value) (σ : Sg) (M : Mem) (Q : Po) : wp 0 526 ls st σ M Q = wp 0 527 ls (.int (nI 1) :: st) σ M Q := x_iconst (pc := 526) (npc := 527) (a := 0) (b := 0) (d := 0) (w := 0) (sw := []) (cv := .int (nI 1)) lst_0 rfl ls st σ M Q
set_option maxRecDepth 20000 in
theorem k0_527 (ls : Lcl) (x y : Int32) (st : List Value) (σ : Sg) (M : Mem) (Q : Po) : wp 0 527 ls (.int y :: .int x :: st) σ M Q = wp 0 528 ls (.int (x + y) :: st) σ M Q := x_iadd (pc := 527) (npc := 528) (a := 0) (b := 0) (d := 0) (w := 0) (sw := []) (cv := .null) lst_0 rfl ls x y st σ M Q
set_option maxRecDepth 20000 in
theorem k0_528 {σ : Sg} (ls : Lcl) (o j : Nat) (h : isI (sT σ o) = true) (hj : j < sL σ o) (hn : sL σ o < 1000000) (st : List Value) (M : Mem) (Q : Po) : wp 0 528 ls (.int (nI j) :: .ref o :: st) σ M Q = wp 0 529 ls (.int (M o j) :: st) σ M Q := x_iaload (pc := 528) (npc := 529) (a := 0) (b := 0) (d := 0) (w := 0) (sw := []) (cv := .null) lst_0 rfl ls o j h hj hn st Q
set_option maxRecDepth 20000 in
theorem k0_529 {σ : Sg} (ls : Lcl) (o : Nat) (a0 : Int32) (st : List Value) (h4 : le4 st = true) (h : sT σ o = 17) (M : Mem) (Q : Po) : wp 0 529 ls (.int a0 :: .ref o :: st) σ M Q = wp 144 0 [some (.ref o), some (.int a0)] [] σ M (fun r σ1 M1 => wp 0 532 ls (pushR r st) σ1 M1 Q) := x_callV (pc := 529) (npc := 532) (a := 144) (b := 0) (d := 17) (w := 982) (sw := []) (cv := .retAddr 2) lst_0 rfl ls (.int a0 :: .ref o :: st) rfl h4 rfl σ h M Q
set_option maxRecDepth 20000 in
theorem k0_532 (ls : Lcl) (x y : Int32) (st : List Value) (σ : Sg) (M : Mem) (Q : Po) : wp 0 532 ls (.int y :: .int x :: st) σ M Q = if x = y then wp 0 678 ls st σ M Q else wp 0 535 ls st σ M Q := x_icmp_eq (pc := 532) (npc := 535) (a := 678) (b := 0) (d := 0) (w := 0) (sw := []) (cv := .null) lst_0 rfl ls x y st σ M Q
set_option maxRecDepth 20000 in
theorem k0_535 (ls : Lcl) (st : List Value) (σ : Sg) (M : Mem) (Q : Po) : wp 0 535 ls st σ M Q = wp 0 536 ls (.int (nI 0) :: st) σ M Q := x_iconst (pc := 535) (npc := 536) (a := 0) (b := 0) (d := 0) (w := 0) (sw := []) (cv := .int (nI 0)) lst_0 rfl ls st σ M Q
set_option maxRecDepth 20000 in
theorem k0_536 (ls : Lcl) (x : Int32) (h : okR (.int (nI 1)) x = true) (σ : Sg) (M : Mem) (Q : Po) : wp 0 536 ls [.int x] σ M Q = Q (some (.int x)) σ M := x_ireturn (pc := 536) (npc := 537) (a := 0) (b := 0) (d := 0) (w := 0) (sw := []) (cv := .int (nI 1)) lst_0 rfl ls x h σ M Q
set_option maxRecDepth 20000 in
theorem k0_537 (l0 l2 l3 : Option Value) (x : Nat) (st : List Value) (σ : Sg) (M : Mem) (Q : Po) : wp 0 537 [l0, some (.ref x), l2, l3] st σ M Q = wp 0 538 [l0, some (.ref x), l2, l3] (.ref x :: st) σ M Q := x_aload_n (pc := 537) (npc := 538) (a := 0) (b := 0) (d := 0) (w := 0) (sw := []) (cv := .null) lst_0 rfl [l0, some (.ref x), l2, l3] x rfl st σ M Q
set_option maxRecDepth 20000 in
theorem k0_538 (l1 l2 l3 : Option Value) (x : Nat) (st : List Value) (σ : Sg) (M : Mem) (Q : Po) : wp 0 538 [some (.ref x), l1, l2, l3] st σ M Q = wp 0 539 [some (.ref x), l1, l2, l3] (.ref x :: st) σ M Q := x_aload_n (pc := 538) (npc := 539) (a := 0) (b := 0) (d := 0) (w := 0) (sw := []) (cv := .null) lst_0 rfl [some (.ref x), l1, l2, l3] x rfl st σ M Q
set_option maxRecDepth 20000 in
theorem k0_539 (l0 l1 l2 : Option Value) (x : Int32) (st : List Value) (σ : Sg) (M : Mem) (Q : Po) : wp 0 539 [l0, l1, l2, some (.int x)] st σ M Q = wp 0 540 [l0, l1, l2, some (.int x)] (.int x :: st) σ M Q := x_iload_n (pc := 539) (npc := 540) (a := 0) (b := 0) (d := 0) (w := 0) (sw := []) (cv := .null) lst_0 rfl [l0, l1, l2, some (.int x)] x rfl st σ M Q
set_option maxRecDepth 20000 in
theorem k0_540 (ls : Lcl) (st : List Value) (σ : Sg) (M : Mem) (Q : Po) : wp 0 540 ls st σ M Q = wp 0 541 ls (.int (nI 1) :: st) σ M Q := x_iconst (pc := 540) (npc := 541) (a := 0) (b := 0) (d := 0) (w := 0) (sw := []) (cv := .int (nI 1)) lst_0 rfl ls st σ M Q
set_option maxRecDepth 20000 in
theorem k0_541 (ls : Lcl) (x y : Int32) (st : List Value) (σ : Sg) (M : Mem) (Q : Po) : wp 0 541 ls (.int y :: .int x :: st) σ M Q = wp 0 542 ls (.int (x + y) :: st) σ M Q := x_iadd (pc := 541) (npc := 542) (a := 0) (b := 0) (d := 0) (w := 0) (sw := []) (cv := .null) lst_0 rfl ls x y st σ M Q
set_option maxRecDepth 20000 in
theorem k0_542 {σ : Sg} (ls : Lcl) (o j : Nat) (h : isI (sT σ o) = true) (hj : j < sL σ o) (hn : sL σ o < 1000000) (st : List Value) (M : Mem) (Q : Po) : wp 0 542 ls (.int (nI j) :: .ref o :: st) σ M Q = wp 0 543 ls (.int (M o j) :: st) σ M Q := x_iaload (pc := 542) (npc := 543) (a := 0) (b := 0) (d := 0) (w := 0) (sw := []) (cv := .null) lst_0 rfl ls o j h hj hn st Q
set_option maxRecDepth 20000 in
theorem k0_543 (l1 l2 l3 : Option Value) (x : Nat) (st : List Value) (σ : Sg) (M : Mem) (Q : Po) : wp 0 543 [some (.ref x), l1, l2, l3] st σ M Q = wp 0 544 [some (.ref x), l1, l2, l3] (.ref x :: st) σ M Q := x_aload_n (pc := 543) (npc := 544) (a := 0) (b := 0) (d := 0) (w := 0) (sw := []) (cv := .null) lst_0 rfl [some (.ref x), l1, l2, l3] x rfl st σ M Q
set_option maxRecDepth 20000 in
theorem k0_544 (l0 l1 l2 : Option Value) (x : Int32) (st : List Value) (σ : Sg) (M : Mem) (Q : Po) : wp 0 544 [l0, l1, l2, some (.int x)] st σ M Q = wp 0 545 [l0, l1, l2, some (.int x)] (.int x :: st) σ M Q := x_iload_n (pc := 544) (npc := 545) (a := 0) (b := 0) (d := 0) (w := 0) (sw := []) (cv := .null) lst_0 rfl [l0, l1, l2, some (.int x)] x rfl st σ M Q
set_option maxRecDepth 20000 in
theorem k0_545 (ls : Lcl) (st : List Value) (σ : Sg) (M : Mem) (Q : Po) : wp 0 545 ls st σ M Q = wp 0 546 ls (.int (nI 2) :: st) σ M Q := x_iconst (pc := 545) (npc := 546) (a := 0) (b := 0) (d := 0) (w := 0) (sw := []) (cv := .int (nI 2)) lst_0 rfl ls st σ M Q
set_option maxRecDepth 20000 in
theorem k0_546 (ls : Lcl) (x y : Int32) (st : List Value) (σ : Sg) (M : Mem) (Q : Po) : wp 0 546 ls (.int y :: .int x :: st) σ M Q = wp 0 547 ls (.int (x + y) :: st) σ M Q := x_iadd (pc := 546) (npc := 547) (a := 0) (b := 0) (d := 0) (w := 0) (sw := []) (cv := .null) lst_0 rfl ls x y st σ M Q
set_option maxRecDepth 20000 in
theorem k0_547 {σ : Sg} (ls : Lcl) (o j : Nat) (h : isI (sT σ o) = true) (hj : j < sL σ o) (hn : sL σ o < 1000000) (st : List Value) (M : Mem) (Q : Po) : wp 0 547 ls (.int (nI j) :: .ref o :: st) σ M Q = wp 0 548 ls (.int (M o j) :: st) σ M Q := x_iaload (pc := 547) (npc := 548) (a := 0) (b := 0) (d := 0) (w := 0) (sw := []) (cv := .null) lst_0 rfl ls o j h hj hn st Q
set_option maxRecDepth 20000 in
theorem k0_548 {σ : Sg} (ls : Lcl) (o : Nat) (a0 : Int32) (a1 : Int32) (st : List Value) (h4 : le4 st = true) (h : sT σ o = 16) (M : Mem) (Q : Po) : wp 0 548 ls (.int a1 :: .int a0 :: .ref o :: st) σ M Q = wp 17 0 [some (.ref o), some (.int a0), some (.int a1), none] [] σ M (fun r σ1 M1 => wp 0 551 ls (pushR r st) σ1 M1 Q) := x_callV (pc := 548) (npc := 551) (a := 17) (b := 1) (d := 16) (w := 609) (sw := []) (cv := .retAddr 3) lst_0 rfl ls (.int a1 :: .int a0 :: .ref o :: st) rfl h4 rfl σ h M Q
set_option maxRecDepth 20000 in
theorem k0_551 (l0 l1 l3 : Option Value) (x : Nat) (st : List Value) (σ : Sg) (M : Mem) (Q : Po) : wp 0 551 [l0, l1, some (.ref x), l3] st σ M Q = wp 0 552 [l0, l1, some (.ref x), l3] (.ref x :: st) σ M Q := x_aload_n (pc := 551) (npc := 552) (a := 0) (b := 0) (d := 0) (w := 0) (sw := []) (cv := .null) lst_0 rfl [l0, l1, some (.ref x), l3] x rfl st σ M Q
set_option maxRecDepth 20000 in
theorem k0_552 (l1 l2 l3 : Option Value) (x : Nat) (st : List Value) (σ : Sg) (M : Mem) (Q : Po) : wp 0 552 [some (.ref x), l1, l2, l3] st σ M Q = wp 0 553 [some (.ref x), l1, l2, l3] (.ref x :: st) σ M Q := x_aload_n (pc := 552) (npc := 553) (a := 0) (b := 0) (d := 0) (w := 0) (sw := []) (cv := .null) lst_0 rfl [some (.ref x), l1, l2, l3] x rfl st σ M Q
set_option maxRecDepth 20000 in
theorem k0_553 (l0 l1 l2 : Option Value) (x : Int32) (st : List Value) (σ : Sg) (M : Mem) (Q : Po) : wp 0 553 [l0, l1, l2, some (.int x)] st σ M Q = wp 0 554 [l0, l1, l2, some (.int x)] (.int x :: st) σ M Q := x_iload_n (pc := 553) (npc := 554) (a := 0) (b := 0) (d := 0) (w := 0) (sw := []) (cv := .null) lst_0 rfl [l0, l1, l2, some (.int x)] x rfl st σ M Q
set_option maxRecDepth 20000 in
theorem k0_554 (ls : Lcl) (st : List Value) (σ : Sg) (M : Mem) (Q : Po) : wp 0 554 ls st σ M Q = wp 0 555 ls (.int (nI 1) :: st) σ M Q := x_iconst (pc := 554) (npc := 555) (a := 0) (b := 0) (d := 0) (w := 0) (sw := []) (cv := .int (nI 1)) lst_0 rfl ls st σ M Q
set_option maxRecDepth 20000 in
theorem k0_555 (ls : Lcl) (x y : Int32) (st : List Value) (σ : Sg) (M : Mem) (Q : Po) : wp 0 555 ls (.int y :: .int x :: st) σ M Q = wp 0 556 ls (.int (x + y) :: st) σ M Q := x_iadd (pc := 555) (npc := 556) (a := 0) (b := 0) (d := 0) (w := 0) (sw := []) (cv := .null) lst_0 rfl ls x y st σ M Q
set_option maxRecDepth 20000 in
theorem k0_556 {σ : Sg} (ls : Lcl) (o j : Nat) (h : isI (sT σ o) = true) (hj : j < sL σ o) (hn : sL σ o < 1000000) (st : List Value) (M : Mem) (Q : Po) : wp 0 556 ls (.int (nI j) :: .ref o :: st) σ M Q = wp 0 557 ls (.int (M o j) :: st) σ M Q := x_iaload (pc := 556) (npc := 557) (a := 0) (b := 0) (d := 0) (w := 0) (sw := []) (cv := .null) lst_0 rfl ls o j h hj hn st Q
set_option maxRecDepth 20000 in
theorem k0_557 (l1 l2 l3 : Option Value) (x : Nat) (st : List Value) (σ : Sg) (M : Mem) (Q : Po) : wp 0 557 [some (.ref x), l1, l2, l3] st σ M Q = wp 0 558 [some (.ref x), l1, l2, l3] (.ref x :: st) σ M Q := x_aload_n (pc := 557) (npc := 558) (a := 0) (b := 0) (d := 0) (w := 0) (sw := []) (cv := .null) lst_0 rfl [some (.ref x), l1, l2, l3] x rfl st σ M Q
set_option maxRecDepth 20000 in
theorem k0_558 (l0 l1 l2 : Option Value) (x : Int32) (st : List Value) (σ : Sg) (M : Mem) (Q : Po) : wp 0 558 [l0, l1, l2, some (.int x)] st σ M Q = wp 0 559 [l0, l1, l2, some (.int x)] (.int x :: st) σ M Q := x_iload_n (pc := 558) (npc := 559) (a := 0) (b := 0) (d := 0) (w := 0) (sw := []) (cv := .null) lst_0 rfl [l0, l1, l2, some (.int x)] x rfl st σ M Q
set_option maxRecDepth 20000 in
theorem k0_559 (ls : Lcl) (st : List Value) (σ : Sg) (M : Mem) (Q : Po) : wp 0 559 ls st σ M Q = wp 0 560 ls (.int (nI 2) :: st) σ M Q := x_iconst (pc := 559) (npc := 560) (a := 0) (b := 0) (d := 0) (w := 0) (sw := []) (cv := .int (nI 2)) lst_0 rfl ls st σ M Q
set_option maxRecDepth 20000 in
theorem k0_560 (ls : Lcl) (x y : Int32) (st : List Value) (σ : Sg) (M : Mem) (Q : Po) : wp 0 560 ls (.int y :: .int x :: st) σ M Q = wp 0 561 ls (.int (x + y) :: st) σ M Q := x_iadd (pc := 560) (npc := 561) (a := 0) (b := 0) (d := 0) (w := 0) (sw := []) (cv := .null) lst_0 rfl ls x y st σ M Q
set_option maxRecDepth 20000 in
theorem k0_561 {σ : Sg} (ls : Lcl) (o j : Nat) (h : isI (sT σ o) = true) (hj : j < sL σ o) (hn : sL σ o < 1000000) (st : List Value) (M : Mem) (Q : Po) : wp 0 561 ls (.int (nI j) :: .ref o :: st) σ M Q = wp 0 562 ls (.int (M o j) :: st) σ M Q := x_iaload (pc := 561) (npc := 562) (a := 0) (b := 0) (d := 0) (w := 0) (sw := []) (cv := .null) lst_0 rfl ls o j h hj hn st Q
set_option maxRecDepth 20000 in
theorem k0_562 {σ : Sg} (ls : Lcl) (o : Nat) (a0 : Int32) (a1 : Int32) (st : List Value) (h4 : le4 st = true) (h : sT σ o = 17) (M : Mem) (Q : Po) : wp 0 562 ls (.int a1 :: .int a0 :: .ref o :: st) σ M Q = wp 145 0 [some (.ref o), some (.int a0), some (.int a1), none] [] σ M (fun r σ1 M1 => wp 0 565 ls (pushR r st) σ1 M1 Q) := x_callV (pc := 562) (npc := 565) (a := 145) (b := 1) (d := 17) (w := 986) (sw := []) (cv := .retAddr 3) lst_0 rfl ls (.int a1 :: .int a0 :: .ref o :: st) rfl h4 rfl σ h M Q
set_option maxRecDepth 20000 in
theorem k0_565 (ls : Lcl) (x y : Int32) (st : List Value) (σ : Sg) (M : Mem) (Q : Po) : wp 0 565 ls (.int y :: .int x :: st) σ M Q = if x = y then wp 0 678 ls st σ M Q else wp 0 568 ls st σ M Q := x_icmp_eq (pc := 565) (npc := 568) (a := 678) (b := 0) (d := 0) (w := 0) (sw := []) (cv := .null) lst_0 rfl ls x y st σ M Q
set_option maxRecDepth 20000 in
theorem k0_568 (ls : Lcl) (st : List Value) (σ : Sg) (M : Mem) (Q : Po) : wp 0 568 ls st σ M Q = wp 0 569 ls (.int (nI 0) :: st) σ M Q := x_iconst (pc := 568) (npc := 569) (a := 0) (b := 0) (d := 0) (w := 0) (sw := []) (cv := .int (nI 0)) lst_0 rfl ls st σ M Q
set_option maxRecDepth 20000 in
theorem k0_569 (ls : Lcl) (x : Int32) (h : okR (.int (nI 1)) x = true) (σ : Sg) (M : Mem) (Q : Po) : wp 0 569 ls [.int x] σ M Q = Q (some (.int x)) σ M := x_ireturn (pc := 569) (npc := 570) (a := 0) (b := 0) (d := 0) (w := 0) (sw := []) (cv := .int (nI 1)) lst_0 rfl ls x h σ M Q
set_option maxRecDepth 20000 in
theorem k0_570 (l0 l2 l3 : Option Value) (x : Nat) (st : List Value) (σ : Sg) (M : Mem) (Q : Po) : wp 0 570 [l0, some (.ref x), l2, l3] st σ M Q = wp 0 571 [l0, some (.ref x), l2, l3] (.ref x :: st) σ M Q := x_aload_n (pc := 570) (npc := 571) (a := 0) (b := 0) (d := 0) (w := 0) (sw := []) (cv := .null) lst_0 rfl [l0, some (.ref x), l2, l3] x rfl st σ M Q
set_option maxRecDepth 20000 in
theorem k0_571 (l1 l2 l3 : Option Value) (x : Nat) (st : List Value) (σ : Sg) (M : Mem) (Q : Po) : wp 0 571 [some (.ref x), l1, l2, l3] st σ M Q = wp 0 572 [some (.ref x), l1, l2, l3] (.ref x :: st) σ M Q := x_aload_n (pc := 571) (npc := 572) (a := 0) (b := 0) (d := 0) (w := 0) (sw := []) (cv := .null) lst_0 rfl [some (.ref x), l1, l2, l3] x rfl st σ M Q
set_option maxRecDepth 20000 in
theorem k0_572 (l0 l1 l2 : Option Value) (x : Int32) (st : List Value) (σ : Sg) (M : Mem) (Q : Po) : wp 0 572 [l0, l1, l2, some (.int x)] st σ M Q = wp 0 573 [l0, l1, l2, some (.int x)] (.int x :: st) σ M Q := x_iload_n (pc := 572) (npc := 573) (a := 0) (b := 0) (d := 0) (w := 0) (sw := []) (cv := .null) lst_0 rfl [l0, l1, l2, some (.int x)] x rfl st σ M Q
set_option maxRecDepth 20000 in
theorem k0_573 (ls : Lcl) (st : List Value) (σ : Sg) (M : Mem) (Q : Po) : wp 0 573 ls st σ M Q = wp 0 574 ls (.int (nI 1) :: st) σ M Q := x_iconst (pc := 573) (npc := 574) (a := 0) (b := 0) (d := 0) (w := 0) (sw := []) (cv := .int (nI 1)) lst_0 rfl ls st σ M Q
set_option maxRecDepth 20000 in
theorem k0_574 (ls : Lcl) (x y : Int32) (st : List Value) (σ : Sg) (M : Mem) (Q : Po) : wp 0 574 ls (.int y :: .int x :: st) σ M Q = wp 0 575 ls (.int (x + y) :: st) σ M Q := x_iadd (pc := 574) (npc := 575) (a := 0) (b := 0) (d := 0) (w := 0) (sw := []) (cv := .null) lst_0 rfl ls x y st σ M Q
set_option maxRecDepth 20000 in
theorem k0_575 {σ : Sg} (ls : Lcl) (o j : Nat) (h : isI (sT σ o) = true) (hj : j < sL σ o) (hn : sL σ o < 1000000) (st : List Value) (M : Mem) (Q : Po) : wp 0 575 ls (.int (nI j) :: .ref o :: st) σ M Q = wp 0 576 ls (.int (M o j) :: st) σ M Q := x_iaload (pc := 575) (npc := 576) (a := 0) (b := 0) (d := 0) (w := 0) (sw := []) (cv := .null) lst_0 rfl ls o j h hj hn st Q
set_option maxRecDepth 20000 in
theorem k0_576 {σ : Sg} (ls : Lcl) (o : Nat) (a0 : Int32) (st : List Value) (h4 : le4 st = true) (h : sT σ o = 16) (M : Mem) (Q : Po) : wp 0 576 ls (.int a0 :: .ref o :: st) σ M Q = wp 18 0 [some (.ref o), some (.int a0)] [] σ M (fun r σ1 M1 => wp 0 579 ls (pushR r st) σ1 M1 Q) := x_callV (pc := 576) (npc := 579) (a := 18) (b := 0) (d := 16) (w := 615) (sw := []) (cv := .retAddr 2) lst_0 rfl ls (.int a0 :: .ref o :: st) rfl h4 rfl σ h M Q
set_option maxRecDepth 20000 in
theorem k0_579 (l0 l1 l3 : Option Value) (x : Nat) (st : List Value) (σ : Sg) (M : Mem) (Q : Po) : wp 0 579 [l0, l1, some (.ref x), l3] st σ M Q = wp 0 580 [l0, l1, some (.ref x), l3] (.ref x :: st) σ M Q := x_aload_n (pc := 579) (npc := 580) (a := 0) (b := 0) (d := 0) (w := 0) (sw := []) (cv := .null) lst_0 rfl [l0, l1, some (.ref x), l3] x rfl st σ M Q
set_option maxRecDepth 20000 in
theorem k0_580 (l1 l2 l3 : Option Value) (x : Nat) (st : List Value) (σ : Sg) (M : Mem) (Q : Po) : wp 0 580 [some (.ref x), l1, l2, l3] st σ M Q = wp 0 581 [some (.ref x), l1, l2, l3] (.ref x :: st) σ M Q := x_aload_n (pc := 580) (npc := 581) (a := 0) (b := 0) (d := 0) (w := 0) (sw := []) (cv := .null) lst_0 rfl [some (.ref x), l1, l2, l3] x rfl st σ M Q
set_option maxRecDepth 20000 in
theorem k0_581 (l0 l1 l2 : Option Value) (x : Int32) (st : List Value) (σ : Sg) (M : Mem) (Q : Po) : wp 0 581 [l0, l1, l2, some (.int x)] st σ M Q = wp 0 582 [l0, l1, l2, some (.int x)] (.int x :: st) σ M Q := x_iload_n (pc := 581) (npc := 582) (a := 0) (b := 0) (d := 0) (w := 0) (sw := []) (cv := .null) lst_0 rfl [l0, l1, l2, some (.int x)] x rfl st σ M Q
set_option maxRecDepth 20000 in
theorem k0_582 (ls : Lcl) (st : List Value) (σ : Sg) (M : Mem) (Q : Po) : wp 0 582 ls st σ M Q = wp 0 583 ls (.int (nI 1) :: st) σ M Q := x_iconst (pc := 582) (npc := 583) (a := 0) (b := 0) (d := 0) (w := 0) (sw := []) (cv := .int (nI 1)) lst_0 rfl ls st σ M Q
set_option maxRecDepth 20000 in
theorem k0_583 (ls : Lcl) (x y : Int32) (st : List Value) (σ : Sg) (M : Mem) (Q : Po) : wp 0 583 ls (.int y :: .int x :: st) σ M Q = wp 0 584 ls (.int (x + y) :: st) σ M Q := x_iadd (pc := 583) (npc := 584) (a := 0) (b := 0) (d := 0) (w := 0) (sw := []) (cv := .null) lst_0 rfl ls x y st σ M Q
set_option maxRecDepth 20000 in
theorem k0_584 {σ : Sg} (ls : Lcl) (o j : Nat) (h : isI (sT σ o) = true) (hj : j < sL σ o) (hn : sL σ o < 1000000) (st : List Value) (M : Mem) (Q : Po) : wp 0 584 ls (.int (nI j) :: .ref o :: st) σ M Q = wp 0 585 ls (.int (M o j) :: st) σ M Q := x_iaload (pc := 584) (npc := 585) (a := 0) (b := 0) (d := 0) (w := 0) (sw := []) (cv := .null) lst_0 rfl ls o j h hj hn st Q
set_option maxRecDepth 20000 in
theorem k0_585 {σ : Sg} (ls : Lcl) (o : Nat) (a0 : Int32) (st : List Value) (h4 : le4 st = true) (h : sT σ o = 17) (M : Mem) (Q : Po) : wp 0 585 ls (.int a0 :: .ref o :: st) σ M Q = wp 147 0 [some (.ref o), some (.int a0)] [] σ M (fun r σ1 M1 => wp 0 588 ls (pushR r st) σ1 M1 Q) := x_callV (pc := 585) (npc := 588) (a := 147) (b := 0) (d := 17) (w := 990) (sw := []) (cv := .retAddr 2) lst_0 rfl ls (.int a0 :: .ref o :: st) rfl h4 rfl σ h M Q
set_option maxRecDepth 20000 in
theorem k0_588 (ls : Lcl) (x y : Int32) (st : List Value) (σ : Sg) (M : Mem) (Q : Po) : wp 0 588 ls (.int y :: .int x :: st) σ M Q = if x = y then wp 0 678 ls st σ M Q else wp 0 591 ls st σ M Q := x_icmp_eq (pc := 588) (npc := 591) (a := 678) (b := 0) (d := 0) (w := 0) (sw := []) (cv := .null) lst_0 rfl ls x y st σ M Q
set_option maxRecDepth 20000 in
theorem k0_591 (ls : Lcl) (st : List Value) (σ : Sg) (M : Mem) (Q : Po) : wp 0 591 ls st σ M Q = wp 0 592 ls (.int (nI 0) :: st) σ M Q := x_iconst (pc := 591) (npc := 592) (a := 0) (b := 0) (d := 0) (w := 0) (sw := []) (cv := .int (nI 0)) lst_0 rfl ls st σ M Q
set_option maxRecDepth 20000 in
theorem k0_592 (ls : Lcl) (x : Int32) (h : okR (.int (nI 1)) x = true) (σ : Sg) (M : Mem) (Q : Po) : wp 0 592 ls [.int x] σ M Q = Q (some (.int x)) σ M := x_ireturn (pc := 592) (npc := 593) (a := 0) (b := 0) (d := 0) (w := 0) (sw := []) (cv := .int (nI 1)) lst_0 rfl ls x h σ M Q
set_option maxRecDepth 20000 in
theorem k0_593 (l0 l2 l3 : Option Value) (x : Nat) (st : List Value) (σ : Sg) (M : Mem) (Q : Po) : wp 0 593 [l0, some (.ref x), l2, l3] st σ M Q = wp 0 594 [l0, some (.ref x), l2, l3] (.ref x :: st) σ M Q := x_aload_n (pc := 593) (npc := 594) (a := 0) (b := 0) (d := 0) (w := 0) (sw := []) (cv := .null) lst_0 rfl [l0, some (.ref x), l2, l3] x rfl st σ M Q
set_option maxRecDepth 20000 in
theorem k0_594 {σ : Sg} (ls : Lcl) (o : Nat) (st : List Value) (h4 : le4 st = true) (h : sT σ o = 16) (M : Mem) (Q : Po) : wp 0 594 ls (.ref o :: st) σ M Q = wp 19 0 [some (.ref o)] [] σ M (fun r σ1 M1 => wp 0 597 ls (pushR r st) σ1 M1 Q) := x_callV (pc := 594) (npc := 597) (a := 19) (b := 0) (d := 16) (w := 625) (sw := []) (cv := .retAddr 1) lst_0 rfl ls (.ref o :: st) rfl h4 rfl σ h M Q
set_option maxRecDepth 20000 in
theorem k0_597 (l0 l1 l3 : Option Value) (x : Nat) (st : List Value) (σ : Sg) (M : Mem) (Q : Po) : wp 0 597 [l0, l1, some (.ref x), l3] st σ M Q = wp 0 598 [l0, l1, some (.ref x), l3] (.ref x :: st) σ M Q := x_aload_n (pc := 597) (npc := 598) (a := 0) (b := 0) (d := 0) (w := 0) (sw := []) (cv := .null) lst_0 rfl [l0, l1, some (.ref x), l3] x rfl st σ M Q
set_option maxRecDepth 20000 in
theorem k0_598 {σ : Sg} (ls : Lcl) (o : Nat) (st : List Value) (h4 : le4 st = true) (h : sT σ o = 17) (M : Mem) (Q : Po) : wp 0 598 ls (.ref o :: st) σ M Q = wp 148 0 [some (.ref o), none] [] σ M (fun r σ1 M1 => wp 0 601 ls (pushR r st) σ1 M1 Q) := x_callV (pc := 598) (npc := 601) (a := 148) (b := 1) (d := 17) (w := 998) (sw := []) (cv := .retAddr 1) lst_0 rfl ls (.ref o :: st) rfl h4 rfl σ h M Q
set_option maxRecDepth 20000 in
theorem k0_601 (ls : Lcl) (x y : Int32) (st : List Value) (σ : Sg) (M : Mem) (Q : Po) : wp 0 601 ls (.int y :: .int x :: st) σ M Q = if x = y then wp 0 678 ls st σ M Q else wp 0 604 ls st σ M Q := x_icmp_eq (pc := 601) (npc := 604) (a := 678) (b := 0) (d := 0) (w := 0) (sw := []) (cv := .null) lst_0 rfl ls x y st σ M Q
set_option maxRecDepth 20000 in
theorem k0_604 (ls : Lcl) (st : List Value) (σ : Sg) (M : Mem) (Q : Po) : wp 0 604 ls st σ M Q = wp 0 605 ls (.int (nI 0) :: st) σ M Q := x_iconst (pc := 604) (npc := 605) (a := 0) (b := 0) (d := 0) (w := 0) (sw := []) (cv := .int (nI 0)) lst_0 rfl ls st σ M Q
set_option maxRecDepth 20000 in
theorem k0_605 (ls : Lcl) (x : Int32) (h : okR (.int (nI 1)) x = true) (σ : Sg) (M : Mem) (Q : Po) : wp 0 605 ls [.int x] σ M Q = Q (some (.int x)) σ M := x_ireturn (pc := 605) (npc := 606) (a := 0) (b := 0) (d := 0) (w := 0) (sw := []) (cv := .int (nI 1)) lst_0 rfl ls x h σ M Q
set_option maxRecDepth 20000 in
theorem k0_606 (l0 l2 l3 : Option Value) (x : Nat) (st : List Value) (σ : Sg) (M : Mem) (Q : Po) : wp 0 606 [l0, some (.ref x), l2, l3] st σ M Q = wp 0 607 [l0, some (.ref x), l2, l3] (.ref x :: st) σ M Q := x_aload_n (pc := 606) (npc := 607) (a := 0) (b := 0) (d := 0) (w := 0) (sw := []) (cv := .null) lst_0 rfl [l0, some (.ref x), l2, l3] x rfl st σ M Q
set_option maxRecDepth 20000 in
theorem k0_607 (l1 l2 l3 : Option Value) (x : Nat) (st : List Value) (σ : Sg) (M : Mem) (Q : Po) : wp 0 607 [some (.ref x), l1, l2, l3] st σ M Q = wp 0 608 [some (.ref x), l1, l2, l3] (.ref x :: st) σ M Q := x_aload_n (pc := 607) (npc := 608) (a := 0) (b := 0) (d := 0) (w := 0) (sw := []) (cv := .null) lst_0 rfl [some (.ref x), l1, l2, l3] x rfl st σ M Q
set_option maxRecDepth 20000 in
theorem k0_608 (l0 l1 l2 : Option Value) (x : Int32) (st : List Value) (σ : Sg) (M : Mem) (Q : Po) : wp 0 608 [l0, l1, l2, some (.int x)] st σ M Q = wp 0 609 [l0, l1, l2, some (.int x)] (.int x :: st) σ M Q := x_iload_n (pc := 608) (npc := 609) (a := 0) (b := 0) (d := 0) (w := 0) (sw := []) (cv := .null) lst_0 rfl [l0, l1, l2, some (.int x)] x rfl st σ M Q
set_option maxRecDepth 20000 in
theorem k0_609 (ls : Lcl) (st : List Value) (σ : Sg) (M : Mem) (Q : Po) : wp 0 609 ls st σ M Q = wp 0 610 ls (.int (nI 1) :: st) σ M Q := x_iconst (pc := 609) (npc := 610) (a := 0) (b := 0) (d := 0) (w := 0) (sw := []) (cv := .int (nI 1)) lst_0 rfl ls st σ M Q
set_option maxRecDepth 20000 in
theorem k0_610 (ls : Lcl) (x y : Int32) (st : List Value) (σ : Sg) (M : Mem) (Q : Po) : wp 0 610 ls (.int y :: .int x :: st) σ M Q = wp 0 611 ls (.int (x + y) :: st) σ M Q := x_iadd (pc := 610) (npc := 611) (a := 0) (b := 0) (d := 0) (w := 0) (sw := []) (cv := .null) lst_0 rfl ls x y st σ M Q
set_option maxRecDepth 20000 in
theorem k0_611 {σ : Sg} (ls : Lcl) (o j : Nat) (h : isI (sT σ o) = true) (hj : j < sL σ o) (hn : sL σ o < 1000000) (st : List Value) (M : Mem) (Q : Po) : wp 0 611 ls (.int (nI j) :: .ref o :: st) σ M Q = wp 0 612 ls (.int (M o j) :: st) σ M Q := x_iaload (pc := 611) (npc := 612) (a := 0) (b := 0) (d := 0) (w := 0) (sw := []) (cv := .null) lst_0 rfl ls o j h hj hn st Q
set_option maxRecDepth 20000 in
theorem k0_612 {σ : Sg} (ls : Lcl) (o : Nat) (a0 : Int32) (st : List Value) (h4 : le4 st = true) (h : sT σ o = 16) (M : Mem) (Q : Po) : wp 0 612 ls (.int a0 :: .ref o :: st) σ M Q = wp 20 0 [some (.ref o), some (.int a0)] [] σ M (fun r σ1 M1 => wp 0 615 ls (pushR r st) σ1 M1 Q) := x_callV (pc := 612) (npc := 615) (a := 20) (b := 0) (d := 16) (w := 634) (sw := []) (cv := .retAddr 2) lst_0 rfl ls (.int a0 :: .ref o :: st) rfl h4 rfl σ h M Q
set_option maxRecDepth 20000 in
theorem k0_615 (l0 l1 l3 : Option Value) (x : Nat) (st : List Value) (σ : Sg) (M : Mem) (Q : Po) : wp 0 615 [l0, l1, some (.ref x), l3] st σ M Q = wp 0 616 [l0, l1, some (.ref x), l3] (.ref x :: st) σ M Q := x_aload_n (pc := 615) (npc := 616) (a := 0) (b := 0) (d := 0) (w := 0) (sw := []) (cv := .null) lst_0 rfl [l0, l1, some (.ref x), l3] x rfl st σ M Q
set_option maxRecDepth 20000 in
theorem k0_616 (l1 l2 l3 : Option Value) (x : Nat) (st : List Value) (σ : Sg) (M : Mem) (Q : Po) : wp 0 616 [some (.ref x), l1, l2, l3] st σ M Q = wp 0 617 [some (.ref x), l1, l2, l3] (.ref x :: st) σ M Q := x_aload_n (pc := 616) (npc := 617) (a := 0) (b := 0) (d := 0) (w := 0) (sw := []) (cv := .null) lst_0 rfl [some (.ref x), l1, l2, l3] x rfl st σ M Q
set_option maxRecDepth 20000 in
theorem k0_617 (l0 l1 l2 : Option Value) (x : Int32) (st : List Value) (σ : Sg) (M : Mem) (Q : Po) : wp 0 617 [l0, l1, l2, some (.int x)] st σ M Q = wp 0 618 [l0, l1, l2, some (.int x)] (.int x :: st) σ M Q := x_iload_n (pc := 617) (npc := 618) (a := 0) (b := 0) (d := 0) (w := 0) (sw := []) (cv := .null) lst_0 rfl [l0, l1, l2, some (.int x)] x rfl st σ M Q
set_option maxRecDepth 20000 in
theorem k0_618 (ls : Lcl) (st : List Value) (σ : Sg) (M : Mem) (Q : Po) : wp 0 618 ls st σ M Q = wp 0 619 ls (.int (nI 1) :: st) σ M Q := x_iconst (pc := 618) (npc := 619) (a := 0) (b := 0) (d := 0) (w := 0) (sw := []) (cv := .int (nI 1)) lst_0 rfl ls st σ M Q
set_option maxRecDepth 20000 in
theorem k0_619 (ls : Lcl) (x y : Int32) (st : List Value) (σ : Sg) (M : Mem) (Q : Po) : wp 0 619 ls (.int y :: .int x :: st) σ M Q = wp 0 620 ls (.int (x + y) :: st) σ M Q := x_iadd (pc := 619) (npc := 620) (a := 0) (b := 0) (d := 0) (w := 0) (sw := []) (cv := .null) lst_0 rfl ls x y st σ M Q
set_option maxRecDepth 20000 in
theorem k0_620 {σ : Sg} (ls : Lcl) (o j : Nat) (h : isI (sT σ o) = true) (hj : j < sL σ o) (hn : sL σ o < 1000000) (st : List Value) (M : Mem) (Q : Po) : wp 0 620 ls (.int (nI j) :: .ref o :: st) σ M Q = wp 0 621 ls (.int (M o j) :: st) σ M Q := x_iaload (pc := 620) (npc := 621) (a := 0) (b := 0) (d := 0) (w := 0) (sw := []) (cv := .null) lst_0 rfl ls o j h hj hn st Q
set_option maxRecDepth 20000 in
theorem k0_621 {σ : Sg} (ls : Lcl) (o : Nat) (a0 : Int32) (st : List Value) (h4 : le4 st = true) (h : sT σ o = 17) (M : Mem) (Q : Po) : wp 0 621 ls (.int a0 :: .ref o :: st) σ M Q = wp 149 0 [some (.ref o), some (.int a0)] [] σ M (fun r σ1 M1 => wp 0 624 ls (pushR r st) σ1 M1 Q) := x_callV (pc := 621) (npc := 624) (a := 149) (b := 0) (d := 17) (w := 1002) (sw := []) (cv := .retAddr 2) lst_0 rfl ls (.int a0 :: .ref o :: st) rfl h4 rfl σ h M Q
set_option maxRecDepth 20000 in
theorem k0_624 (ls : Lcl) (x y : Int32) (st : List Value) (σ : Sg) (M : Mem) (Q : Po) : wp 0 624 ls (.int y :: .int x :: st) σ M Q = if x = y then wp 0 678 ls st σ M Q else wp 0 627 ls st σ M Q := x_icmp_eq (pc := 624) (npc := 627) (a := 678) (b := 0) (d := 0) (w := 0) (sw := []) (cv := .null) lst_0 rfl ls x y st σ M Q
set_option maxRecDepth 20000 in
theorem k0_627 (ls : Lcl) (st : List Value) (σ : Sg) (M : Mem) (Q : Po) : wp 0 627 ls st σ M Q = wp 0 628 ls (.int (nI 0) :: st) σ M Q := x_iconst (pc := 627) (npc := 628) (a := 0) (b := 0) (d := 0) (w := 0) (sw := []) (cv := .int (nI 0)) lst_0 rfl ls st σ M Q
set_option maxRecDepth 20000 in
theorem k0_628 (ls : Lcl) (x : Int32) (h : okR (.int (nI 1)) x = true) (σ : Sg) (M : Mem) (Q : Po) : wp 0 628 ls [.int x] σ M Q = Q (some (.int x)) σ M := x_ireturn (pc := 628) (npc := 629) (a := 0) (b := 0) (d := 0) (w := 0) (sw := []) (cv := .int (nI 1)) lst_0 rfl ls x h σ M Q
set_option maxRecDepth 20000 in
theorem k0_629 (l0 l2 l3 : Option Value) (x : Nat) (st : List Value) (σ : Sg) (M : Mem) (Q : Po) : wp 0 629 [l0, some (.ref x), l2, l3] st σ M Q = wp 0 630 [l0, some (.ref x), l2, l3] (.ref x :: st) σ M Q := x_aload_n (pc := 629) (npc := 630) (a := 0) (b := 0) (d := 0) (w := 0) (sw := []) (cv := .null) lst_0 rfl [l0, some (.ref x), l2, l3] x rfl st σ M Q
set_option maxRecDepth 20000 in
theorem k0_630 {σ : Sg} (ls : Lcl) (o : Nat) (st : List Value) (h4 : le4 st = true) (h : sT σ o = 16) (M : Mem) (Q : Po) : wp 0 630 ls (.ref o :: st) σ M Q = wp 21 0 [some (.ref o)] [] σ M (fun r σ1 M1 => wp 0 633 ls (pushR r st) σ1 M1 Q) := x_callV (pc := 630) (npc := 633) (a := 21) (b := 0) (d := 16) (w := 645) (sw := []) (cv := .retAddr 1) lst_0 rfl ls (.ref o :: st) rfl h4 rfl σ h M Q
set_option maxRecDepth 20000 in
theorem k0_633 (l0 l1 l3 : Option Value) (x : Nat) (st : List Value) (σ : Sg) (M : Mem) (Q : Po) : wp 0 633 [l0, l1, some (.ref x), l3] st σ M Q = wp 0 634 [l0, l1, some (.ref x), l3] (.ref x :: st) σ M Q := x_aload_n (pc := 633) (npc := 634) (a := 0) (b := 0) (d := 0) (w := 0) (sw := []) (cv := .null) lst_0 rfl [l0, l1, some (.ref x), l3] x rfl st σ M Q
set_option maxRecDepth 20000 in
theorem k0_634 {σ : Sg} (ls : Lcl) (o : Nat) (st : List Value) (h4 : le4 st = true) (h : sT σ o = 17) (M : Mem) (Q : Po) : wp 0 634 ls (.ref o :: st) σ M Q = wp 150 0 [some (.ref o), none] [] σ M (fun r σ1 M1 => wp 0 637 ls (pushR r st) σ1 M1 Q) := x_callV (pc := 634) (npc := 637) (a := 150) (b := 1) (d := 17) (w := 1006) (sw := []) (cv := .retAddr 1) lst_0 rfl ls (.ref o :: st) rfl h4 rfl σ h M Q
set_option maxRecDepth 20000 in
theorem k0_637 (ls : Lcl) (x y : Int32) (st : List Value) (σ : Sg) (M : Mem) (Q : Po) : wp 0 637 ls (.int y :: .int x :: st) σ M Q = if x = y then wp 0 678 ls st σ M Q else wp 0 640 ls st σ M Q := x_icmp_eq (pc := 637) (npc := 640) (a := 678) (b := 0) (d := 0) (w := 0) (sw := []) (cv := .null) lst_0 rfl ls x y st σ M Q
set_option maxRecDepth 20000 in
theorem k0_640 (ls : Lcl) (st : List Value) (σ : Sg) (M : Mem) (Q : Po) : wp 0 640 ls st σ M Q = wp 0 641 ls (.int (nI 0) :: st) σ M Q := x_iconst (pc := 640) (npc := 641) (a := 0) (b := 0) (d := 0) (w := 0) (sw := []) (cv := .int (nI 0)) lst_0 rfl ls st σ M Q
set_option maxRecDepth 20000 in
theorem k0_641 (ls : Lcl) (x : Int32) (h : okR (.int (nI 1)) x = true) (σ : Sg) (M : Mem) (Q : Po) : wp 0 641 ls [.int x] σ M Q = Q (some (.int x)) σ M := x_ireturn (pc := 641) (npc := 642) (a := 0) (b := 0) (d := 0) (w := 0) (sw := []) (cv := .int (nI 1)) lst_0 rfl ls x h σ M Q
set_option maxRecDepth 20000 in
theorem k0_642 (l0 l2 l3 : Option Value) (x : Nat) (st : List Value) (σ : Sg) (M : Mem) (Q : Po) : wp 0 642 [l0, some (.ref x), l2, l3] st σ M Q = wp 0 643 [l0, some (.ref x), l2, l3] (.ref x :: st) σ M Q := x_aload_n (pc := 642) (npc := 643) (a := 0) (b := 0) (d := 0) (w := 0) (sw := []) (cv := .null) lst_0 rfl [l0, some (.ref x), l2, l3] x rfl st σ M Q
set_option maxRecDepth 20000 in
theorem k0_643 (l1 l2 l3 : Option Value) (x : Nat) (st : List Value) (σ : Sg) (M : Mem) (Q : Po) : wp 0 643 [some (.ref x), l1, l2, l3] st σ M Q = wp 0 644 [some (.ref x), l1, l2, l3] (.ref x :: st) σ M Q := x_aload_n (pc := 643) (npc := 644) (a := 0) (b := 0) (d := 0) (w := 0) (sw := []) (cv := .null) lst_0 rfl [some (.ref x), l1, l2, l3] x rfl st σ M Q
set_option maxRecDepth 20000 in
theorem k0_644 (l0 l1 l2 : Option Value) (x : Int32) (st : List Value) (σ : Sg) (M : Mem) (Q : Po) : wp 0 644 [l0, l1, l2, some (.int x)] st σ M Q = wp 0 645 [l0, l1, l2, some (.int x)] (.int x :: st) σ M Q := x_iload_n (pc := 644) (npc := 645) (a := 0) (b := 0) (d := 0) (w := 0) (sw := []) (cv := .null) lst_0 rfl [l0, l1, l2, some (.int x)] x rfl st σ M Q
set_option maxRecDepth 20000 in
theorem k0_645 (ls : Lcl) (st : List Value) (σ : Sg) (M : Mem) (Q : Po) : wp 0 645 ls st σ M Q = wp 0 646 ls (.int (nI 1) :: st) σ M Q := x_iconst (pc := 645) (npc := 646) (a := 0) (b := 0) (d := 0) (w := 0) (sw := []) (cv := .int (nI 1)) lst_0 rfl ls st σ M Q
set_option maxRecDepth 20000 in
theorem k0_646 (ls : Lcl) (x y : Int32) (st : List Value) (σ : Sg) (M : Mem) (Q : Po) : wp 0 646 ls (.int y :: .int x :: st) σ M Q = wp 0 647 ls (.int (x + y) :: st) σ M Q := x_iadd (pc := 646) (npc := 647) (a := 0) (b := 0) (d := 0) (w := 0) (sw := []) (cv := .null) lst_0 rfl ls x y st σ M Q
set_option maxRecDepth 20000 in
theorem k0_647 {σ : Sg} (ls : Lcl) (o j : Nat) (h : isI (sT σ o) = true) (hj : j < sL σ o) (hn : sL σ o < 1000000) (st : List Value) (M : Mem) (Q : Po) : wp 0 647 ls (.int (nI j) :: .ref o :: st) σ M Q = wp 0 648 ls (.int (M o j) :: st) σ M Q := x_iaload (pc := 647) (npc := 648) (a := 0) (b := 0) (d := 0) (w := 0) (sw := []) (cv := .null) lst_0 rfl ls o j h hj hn st Q
set_option maxRecDepth 20000 in
theorem k0_648 {σ : Sg} (ls : Lcl) (o : Nat) (a0 : Int32) (st : List Value) (h4 : le4 st = true) (h : sT σ o = 16) (M : Mem) (Q : Po) : wp 0 648 ls (.int a0 :: .ref o :: st) σ M Q = wp 22 0 [some (.ref o), some (.int a0)] [] σ M (fun r σ1 M1 => wp 0 651 ls (pushR r st) σ1 M1 Q) := x_callV (pc := 648) (npc := 651) (a := 22) (b := 0) (d := 16) (w := 653) (sw := []) (cv := .retAddr 2) lst_0 rfl ls (.int a0 :: .ref o :: st) rfl h4 rfl σ h M Q
set_option maxRecDepth 20000 in
theorem k0_651 (l0 l1 l3 : Option Value) (x : Nat) (st : List Value) (σ : Sg) (M : Mem) (Q : Po) : wp 0 651 [l0, l1, some (.ref x), l3] st σ M Q = wp 0 652 [l0, l1, some (.ref x), l3] (.ref x :: st) σ M Q := x_aload_n (pc := 651) (npc := 652) (a := 0) (b := 0) (d := 0) (w := 0) (sw := []) (cv := .null) lst_0 rfl [l0, l1, some (.ref x), l3] x rfl st σ M Q
set_option maxRecDepth 20000 in
theorem k0_652 (l1 l2 l3 : Option Value) (x : Nat) (st : List Value) (σ : Sg) (M : Mem) (Q : Po) : wp 0 652 [some (.ref x), l1, l2, l3] st σ M Q = wp 0 653 [some (.ref x), l1, l2, l3] (.ref x :: st) σ M Q := x_aload_n (pc := 652) (npc := 653) (a := 0) (b := 0) (d := 0) (w := 0) (sw := []) (cv := .null) lst_0 rfl [some (.ref x), l1, l2, l3] x rfl st σ M Q
set_option maxRecDepth 20000 in
theorem k0_653 (l0 l1 l2 : Option Value) (x : Int32) (st : List Value) (σ : Sg) (M : Mem) (Q : Po) : wp 0 653 [l0, l1, l2, some (.int x)] st σ M Q = wp 0 654 [l0, l1, l2, some (.int x)] (.int x :: st) σ M Q := x_iload_n (pc := 653) (npc := 654) (a := 0) (b := 0) (d := 0) (w := 0) (sw := []) (cv := .null) lst_0 rfl [l0, l1, l2, some (.int x)] x rfl st σ M Q
set_option maxRecDepth 20000 in
theorem k0_654 (ls : Lcl) (st : List Value) (σ : Sg) (M : Mem) (Q : Po) : wp 0 654 ls st σ M Q = wp 0 655 ls (.int (nI 1) :: st) σ M Q := x_iconst (pc := 654) (npc := 655) (a := 0) (b := 0) (d := 0) (w := 0) (sw := []) (cv := .int (nI 1)) lst_0 rfl ls st σ M Q
set_option maxRecDepth 20000 in
theorem k0_655 (ls : Lcl) (x y : Int32) (st : List Value) (σ : Sg) (M : Mem) (Q : Po) : wp 0 655 ls (.int y :: .int x :: st) σ M Q = wp 0 656 ls (.int (x + y) :: st) σ M Q := x_iadd (pc := 655) (npc := 656) (a := 0) (b := 0) (d := 0) (w := 0) (sw := []) (cv := .null) lst_0 rfl ls x y st σ M Q
set_option maxRecDepth 20000 in
theorem k0_656 {σ : Sg} (ls : Lcl) (o j : Nat) (h : isI (sT σ o) = true) (hj : j < sL σ o) (hn : sL σ o < 1000000) (st : List Value) (M : Mem) (Q : Po) : wp 0 656 ls (.int (nI j) :: .ref o :: st) σ M Q = wp 0 657 ls (.int (M o j) :: st) σ M Q := x_iaload (pc := 656) (npc := 657) (a := 0) (b := 0) (d := 0) (w := 0) (sw := []) (cv := .null) lst_0 rfl ls o j h hj hn st Q
set_option maxRecDepth 20000 in
theorem k0_657 {σ : Sg} (ls : Lcl) (o : Nat) (a0 : Int32) (st : List Value) (h4 : le4 st = true) (h : sT σ o = 17) (M : Mem) (Q : Po) : wp 0 657 ls (.int a0 :: .ref o :: st) σ M Q = wp 158 0 [some (.ref o), some (.int a0), none] [] σ M (fun r σ1 M1 => wp 0 660 ls (pushR r st) σ1 M1 Q) := x_callV (pc := 657) (npc := 660) (a := 158) (b := 1) (d := 17) (w := 1010) (sw := []) (cv := .retAddr 2) lst_0 rfl ls (.int a0 :: .ref o :: st) rfl h4 rfl σ h M Q
set_option maxRecDepth 20000 in
theorem k0_660 (ls : Lcl) (x y : Int32) (st : List Value) (σ : Sg) (M : Mem) (Q : Po) : wp 0 660 ls (.int y :: .int x :: st) σ M Q = if x = y then wp 0 678 ls st σ M Q else wp 0 663 ls st σ M Q := x_icmp_eq (pc := 660) (npc := 663) (a := 678) (b := 0) (d := 0) (w := 0) (sw := []) (cv := .null) lst_0 rfl ls x y st σ M Q
set_option maxRecDepth 20000 in
theorem k0_663 (ls : Lcl) (st : List Value) (σ : Sg) (M : Mem) (Q : Po) : wp 0 663 ls st σ M Q = wp 0 664 ls (.int (nI 0) :: st) σ M Q := x_iconst (pc := 663) (npc := 664) (a := 0) (b := 0) (d := 0) (w := 0) (sw := []) (cv := .int (nI 0)) lst_0 rfl ls st σ M Q
set_option maxRecDepth 20000 in
theorem k0_664 (ls : Lcl) (x : Int32) (h : okR (.int (nI 1)) x = true) (σ : Sg) (M : Mem) (Q : Po) : wp 0 664 ls [.int x] σ M Q = Q (some (.int x)) σ M := x_ireturn (pc := 664) (npc := 665) (a := 0) (b := 0) (d := 0) (w := 0) (sw := []) (cv := .int (nI 1)) lst_0 rfl ls x h σ M Q
set_option maxRecDepth 20000 in
theorem k0_665 (l0 l2 l3 : Option Value) (x : Nat) (st : List Value) (σ : Sg) (M : Mem) (Q : Po) : wp 0 665 [l0, some (.ref x), l2, l3] st σ M Q = wp 0 666 [l0, some (.ref x), l2, l3] (.ref x :: st) σ M Q := x_aload_n (pc := 665) (npc := 666) (a := 0) (b := 0) (d := 0) (w := 0) (sw := []) (cv := .null) lst_0 rfl [l0, some (.ref x), l2, l3] x rfl st σ M Q
set_option maxRecDepth 20000 in
theorem k0_666 {σ : Sg} (ls : Lcl) (o : Nat) (st : List Value) (h4 : le4 st = true) (h : sT σ o = 16) (M : Mem) (Q : Po) : wp 0 666 ls (.ref o :: st) σ M Q = wp 23 0 [some (.ref o), none] [] σ M (fun r σ1 M1 => wp 0 669 ls (pushR r st) σ1 M1 Q) := x_callV (pc := 666) (npc := 669) (a := 23) (b := 1) (d := 16) (w := 694) (sw := []) (cv := .retAddr 1) lst_0 rfl ls (.ref o :: st) rfl h4 rfl σ h M Q
set_option maxRecDepth 20000 in
theorem k0_669 (l0 l1 l3 : Option Value) (x : Nat) (st : List Value) (σ : Sg) (M : Mem) (Q : Po) : wp 0 669 [l0, l1, some (.ref x), l3] st σ M Q = wp 0 670 [l0, l1, some (.ref x), l3] (.ref x :: st) σ M Q := x_aload_n (pc := 669) (npc := 670) (a := 0) (b := 0) (d := 0) (w := 0) (sw := []) (cv := .null) lst_0 rfl [l0, l1, some (.ref x), l3] x rfl st σ M Q
set_option maxRecDepth 20000 in
theorem k0_670 {σ : Sg} (ls : Lcl) (o : Nat) (st : List Value) (h4 : le4 st = true) (h : sT σ o = 17) (M : Mem) (Q : Po) : wp 0 670 ls (.ref o :: st) σ M Q = wp 159 0 [some (.ref o)] [] σ M (fun r σ1 M1 => wp 0 673 ls (pushR r st) σ1 M1 Q) := x_callV (pc := 670) (npc := 673) (a := 159) (b := 0) (d := 17) (w := 1041) (sw := []) (cv := .retAddr 1) lst_0 rfl ls (.ref o :: st) rfl h4 rfl σ h M Q
set_option maxRecDepth 20000 in
theorem k0_673 (ls : Lcl) (x y : Int32) (st : List Value) (σ : Sg) (M : Mem) (Q : Po) : wp 0 673 ls (.int y :: .int x :: st) σ M Q = if x = y then wp 0 678 ls st σ M Q else wp 0 676 ls st σ M Q := x_icmp_eq (pc := 673) (npc := 676) (a := 678) (b := 0) (d := 0) (w := 0) (sw := []) (cv := .null) lst_0 rfl ls x y st σ M Q
set_option maxRecDepth 20000 in
theorem k0_676 (ls : Lcl) (st : List Value) (σ : Sg) (M : Mem) (Q : Po) : wp 0 676 ls st σ M Q = wp 0 677 ls (.int (nI 0) :: st) σ M Q := x_iconst (pc := 676) (npc := 677) (a := 0) (b := 0) (d := 0) (w := 0) (sw := []) (cv := .int (nI 0)) lst_0 rfl ls st σ M Q
set_option maxRecDepth 20000 in
theorem k0_677 (ls : Lcl) (x : Int32) (h : okR (.int (nI 1)) x = true) (σ : Sg) (M : Mem) (Q : Po) : wp 0 677 ls [.int x] σ M Q = Q (some (.int x)) σ M := x_ireturn (pc := 677) (npc := 678) (a := 0) (b := 0) (d := 0) (w := 0) (sw := []) (cv := .int (nI 1)) lst_0 rfl ls x h σ M Q
set_option maxRecDepth 20000 in
theorem k0_678 (l0 l1 l2 : Option Value) (x : Int32) (h : isLong l2 = false) (st : List Value) (σ : Sg) (M : Mem) (Q : Po) : wp 0 678 [l0, l1, l2, some (.int x)] st σ M Q = wp 0 681 [l0, l1, l2, some (.int (x + nI 4))] st σ M Q := x_iinc (pc := 678) (npc := 681) (a := 0) (b := 0) (d := 0) (w := 0) (sw := []) (cv := .null) lst_0 rfl [l0, l1, l2, some (.int x)] x (nI 4) rfl rfl (Nat.le_of_ble_eq_true rfl) (na_3 h) st σ M Q
set_option maxRecDepth 20000 in
theorem k0_681 (ls : Lcl) (st : List Value) (σ : Sg) (M : Mem) (Q : Po) : wp 0 681 ls st σ M Q = wp 0 18 ls st σ M Q := x_goto (pc := 681) (npc := 684) (a := 18) (b := 0) (d := 0) (w := 0) (sw := []) (cv := .null) lst_0 rfl ls st σ M Q
set_option maxRecDepth 20000 in
theorem k0_684 (ls : Lcl) (st : List Value) (σ : Sg) (M : Mem) (Q : Po) : wp 0 684 ls st σ M Q = wp 0 685 ls (.int (nI 1) :: st) σ M Q := x_iconst (pc := 684) (npc := 685) (a := 0) (b := 0) (d := 0) (w := 0) (sw := []) (cv := .int (nI 1)) lst_0 rfl ls st σ M Q
set_option maxRecDepth 20000 in
theorem k0_685 (ls : Lcl) (x : Int32) (h : okR (.int (nI 1)) x = true) (σ : Sg) (M : Mem) (Q : Po) : wp 0 685 ls [.int x] σ M Q = Q (some (.int x)) σ M := x_ireturn (pc := 685) (npc := 686) (a := 0) (b := 0) (d := 0) (w := 0) (sw := []) (cv := .int (nI 1)) lst_0 rfl ls x h σ M Q
