/-! ===== what the numbers are behind a change of one of them ===== -/
theorem jm_se_use (M : jm_T) (x : (Nat → Int32)) : jm_se (jm_use M x) = x := rfl
theorem jm_se_uch (M : jm_T) (x : (Nat → Int32)) : jm_se (jm_uch M x) = jm_se M := rfl
theorem jm_se_uja (M : jm_T) (x : (Nat → Int32)) : jm_se (jm_uja M x) = jm_se M := rfl
theorem jm_se_utk (M : jm_T) (x : (Nat → Int32)) : jm_se (jm_utk M x) = jm_se M := rfl
theorem jm_se_ulj (M : jm_T) (x : (Nat → Int32)) : jm_se (jm_ulj M x) = jm_se M := rfl
theorem jm_se_ulo (M : jm_T) (x : (Nat → Int32)) : jm_se (jm_ulo M x) = jm_se M := rfl
theorem jm_se_utu (M : jm_T) (x : Int32) : jm_se (jm_utu M x) = jm_se M := rfl
theorem jm_se_usp (M : jm_T) (x : Int32) : jm_se (jm_usp M x) = jm_se M := rfl
theorem jm_se_urv (M : jm_T) (x : Int32) : jm_se (jm_urv M x) = jm_se M := rfl
theorem jm_se_uls (M : jm_T) (x : Int32) : jm_se (jm_uls M x) = jm_se M := rfl
theorem jm_se_ulk (M : jm_T) (x : Int32) : jm_se (jm_ulk M x) = jm_se M := rfl
theorem jm_se_upo (M : jm_T) (x : Int32) : jm_se (jm_upo M x) = jm_se M := rfl
theorem jm_se_uto (M : jm_T) (x : Int32) : jm_se (jm_uto M x) = jm_se M := rfl
theorem jm_ch_use (M : jm_T) (x : (Nat → Int32)) : jm_ch (jm_use M x) = jm_ch M := rfl
theorem jm_ch_uch (M : jm_T) (x : (Nat → Int32)) : jm_ch (jm_uch M x) = x := rfl
theorem jm_ch_uja (M : jm_T) (x : (Nat → Int32)) : jm_ch (jm_uja M x) = jm_ch M := rfl
theorem jm_ch_utk (M : jm_T) (x : (Nat → Int32)) : jm_ch (jm_utk M x) = jm_ch M := rfl
theorem jm_ch_ulj (M : jm_T) (x : (Nat → Int32)) : jm_ch (jm_ulj M x) = jm_ch M := rfl
theorem jm_ch_ulo (M : jm_T) (x : (Nat → Int32)) : jm_ch (jm_ulo M x) = jm_ch M := rfl
theorem jm_ch_utu (M : jm_T) (x : Int32) : jm_ch (jm_utu M x) = jm_ch M := rfl
theorem jm_ch_usp (M : jm_T) (x : Int32) : jm_ch (jm_usp M x) = jm_ch M := rfl
theorem jm_ch_urv (M : jm_T) (x : Int32) : jm_ch (jm_urv M x) = jm_ch M := rfl
theorem jm_ch_uls (M : jm_T) (x : Int32) : jm_ch (jm_uls M x) = jm_ch M := rfl
theorem jm_ch_ulk (M : jm_T) (x : Int32) : jm_ch (jm_ulk M x) = jm_ch M := rfl
theorem jm_ch_upo (M : jm_T) (x : Int32) : jm_ch (jm_upo M x) = jm_ch M := rfl
theorem jm_ch_uto (M : jm_T) (x : Int32) : jm_ch (jm_uto M x) = jm_ch M := rfl
theorem jm_ja_use (M : jm_T) (x : (Nat → Int32)) : jm_ja (jm_use M x) = jm_ja M := rfl
theorem jm_ja_uch (M : jm_T) (x : (Nat → Int32)) : jm_ja (jm_uch M x) = jm_ja M := rfl
theorem jm_ja_uja (M : jm_T) (x : (Nat → Int32)) : jm_ja (jm_uja M x) = x := rfl
theorem jm_ja_utk (M : jm_T) (x : (Nat → Int32)) : jm_ja (jm_utk M x) = jm_ja M := rfl
theorem jm_ja_ulj (M : jm_T) (x : (Nat → Int32)) : jm_ja (jm_ulj M x) = jm_ja M := rfl
theorem jm_ja_ulo (M : jm_T) (x : (Nat → Int32)) : jm_ja (jm_ulo M x) = jm_ja M := rfl
theorem jm_ja_utu (M : jm_T) (x : Int32) : jm_ja (jm_utu M x) = jm_ja M := rfl
theorem jm_ja_usp (M : jm_T) (x : Int32) : jm_ja (jm_usp M x) = jm_ja M := rfl
theorem jm_ja_urv (M : jm_T) (x : Int32) : jm_ja (jm_urv M x) = jm_ja M := rfl
theorem jm_ja_uls (M : jm_T) (x : Int32) : jm_ja (jm_uls M x) = jm_ja M := rfl
theorem jm_ja_ulk (M : jm_T) (x : Int32) : jm_ja (jm_ulk M x) = jm_ja M := rfl
theorem jm_ja_upo (M : jm_T) (x : Int32) : jm_ja (jm_upo M x) = jm_ja M := rfl
theorem jm_ja_uto (M : jm_T) (x : Int32) : jm_ja (jm_uto M x) = jm_ja M := rfl
theorem jm_tk_use (M : jm_T) (x : (Nat → Int32)) : jm_tk (jm_use M x) = jm_tk M := rfl
theorem jm_tk_uch (M : jm_T) (x : (Nat → Int32)) : jm_tk (jm_uch M x) = jm_tk M := rfl
theorem jm_tk_uja (M : jm_T) (x : (Nat → Int32)) : jm_tk (jm_uja M x) = jm_tk M := rfl
theorem jm_tk_utk (M : jm_T) (x : (Nat → Int32)) : jm_tk (jm_utk M x) = x := rfl
theorem jm_tk_ulj (M : jm_T) (x : (Nat → Int32)) : jm_tk (jm_ulj M x) = jm_tk M := rfl
theorem jm_tk_ulo (M : jm_T) (x : (Nat → Int32)) : jm_tk (jm_ulo M x) = jm_tk M := rfl
theorem jm_tk_utu (M : jm_T) (x : Int32) : jm_tk (jm_utu M x) = jm_tk M := rfl
theorem jm_tk_usp (M : jm_T) (x : Int32) : jm_tk (jm_usp M x) = jm_tk M := rfl
theorem jm_tk_urv (M : jm_T) (x : Int32) : jm_tk (jm_urv M x) = jm_tk M := rfl
theorem jm_tk_uls (M : jm_T) (x : Int32) : jm_tk (jm_uls M x) = jm_tk M := rfl
theorem jm_tk_ulk (M : jm_T) (x : Int32) : jm_tk (jm_ulk M x) = jm_tk M := rfl
theorem jm_tk_upo (M : jm_T) (x : Int32) : jm_tk (jm_upo M x) = jm_tk M := rfl
theorem jm_tk_uto (M : jm_T) (x : Int32) : jm_tk (jm_uto M x) = jm_tk M := rfl
theorem jm_lj_use (M : jm_T) (x : (Nat → Int32)) : jm_lj (jm_use M x) = jm_lj M := rfl
theorem jm_lj_uch (M : jm_T) (x : (Nat → Int32)) : jm_lj (jm_uch M x) = jm_lj M := rfl
theorem jm_lj_uja (M : jm_T) (x : (Nat → Int32)) : jm_lj (jm_uja M x) = jm_lj M := rfl
theorem jm_lj_utk (M : jm_T) (x : (Nat → Int32)) : jm_lj (jm_utk M x) = jm_lj M := rfl
theorem jm_lj_ulj (M : jm_T) (x : (Nat → Int32)) : jm_lj (jm_ulj M x) = x := rfl
theorem jm_lj_ulo (M : jm_T) (x : (Nat → Int32)) : jm_lj (jm_ulo M x) = jm_lj M := rfl
theorem jm_lj_utu (M : jm_T) (x : Int32) : jm_lj (jm_utu M x) = jm_lj M := rfl
theorem jm_lj_usp (M : jm_T) (x : Int32) : jm_lj (jm_usp M x) = jm_lj M := rfl
theorem jm_lj_urv (M : jm_T) (x : Int32) : jm_lj (jm_urv M x) = jm_lj M := rfl
theorem jm_lj_uls (M : jm_T) (x : Int32) : jm_lj (jm_uls M x) = jm_lj M := rfl
theorem jm_lj_ulk (M : jm_T) (x : Int32) : jm_lj (jm_ulk M x) = jm_lj M := rfl
theorem jm_lj_upo (M : jm_T) (x : Int32) : jm_lj (jm_upo M x) = jm_lj M := rfl
theorem jm_lj_uto (M : jm_T) (x : Int32) : jm_lj (jm_uto M x) = jm_lj M := rfl
theorem jm_lo_use (M : jm_T) (x : (Nat → Int32)) : jm_lo (jm_use M x) = jm_lo M := rfl
theorem jm_lo_uch (M : jm_T) (x : (Nat → Int32)) : jm_lo (jm_uch M x) = jm_lo M := rfl
theorem jm_lo_uja (M : jm_T) (x : (Nat → Int32)) : jm_lo (jm_uja M x) = jm_lo M := rfl
theorem jm_lo_utk (M : jm_T) (x : (Nat → Int32)) : jm_lo (jm_utk M x) = jm_lo M := rfl
theorem jm_lo_ulj (M : jm_T) (x : (Nat → Int32)) : jm_lo (jm_ulj M x) = jm_lo M := rfl
theorem jm_lo_ulo (M : jm_T) (x : (Nat → Int32)) : jm_lo (jm_ulo M x) = x := rfl
theorem jm_lo_utu (M : jm_T) (x : Int32) : jm_lo (jm_utu M x) = jm_lo M := rfl
theorem jm_lo_usp (M : jm_T) (x : Int32) : jm_lo (jm_usp M x) = jm_lo M := rfl
theorem jm_lo_urv (M : jm_T) (x : Int32) : jm_lo (jm_urv M x) = jm_lo M := rfl
theorem jm_lo_uls (M : jm_T) (x : Int32) : jm_lo (jm_uls M x) = jm_lo M := rfl
theorem jm_lo_ulk (M : jm_T) (x : Int32) : jm_lo (jm_ulk M x) = jm_lo M := rfl
theorem jm_lo_upo (M : jm_T) (x : Int32) : jm_lo (jm_upo M x) = jm_lo M := rfl
theorem jm_lo_uto (M : jm_T) (x : Int32) : jm_lo (jm_uto M x) = jm_lo M := rfl
theorem jm_tu_use (M : jm_T) (x : (Nat → Int32)) : jm_tu (jm_use M x) = jm_tu M := rfl
theorem jm_tu_uch (M : jm_T) (x : (Nat → Int32)) : jm_tu (jm_uch M x) = jm_tu M := rfl
theorem jm_tu_uja (M : jm_T) (x : (Nat → Int32)) : jm_tu (jm_uja M x) = jm_tu M := rfl
theorem jm_tu_utk (M : jm_T) (x : (Nat → Int32)) : jm_tu (jm_utk M x) = jm_tu M := rfl
theorem jm_tu_ulj (M : jm_T) (x : (Nat → Int32)) : jm_tu (jm_ulj M x) = jm_tu M := rfl
theorem jm_tu_ulo (M : jm_T) (x : (Nat → Int32)) : jm_tu (jm_ulo M x) = jm_tu M := rfl
theorem jm_tu_utu (M : jm_T) (x : Int32) : jm_tu (jm_utu M x) = x := rfl
theorem jm_tu_usp (M : jm_T) (x : Int32) : jm_tu (jm_usp M x) = jm_tu M := rfl
theorem jm_tu_urv (M : jm_T) (x : Int32) : jm_tu (jm_urv M x) = jm_tu M := rfl
theorem jm_tu_uls (M : jm_T) (x : Int32) : jm_tu (jm_uls M x) = jm_tu M := rfl
theorem jm_tu_ulk (M : jm_T) (x : Int32) : jm_tu (jm_ulk M x) = jm_tu M := rfl
theorem jm_tu_upo (M : jm_T) (x : Int32) : jm_tu (jm_upo M x) = jm_tu M := rfl
theorem jm_tu_uto (M : jm_T) (x : Int32) : jm_tu (jm_uto M x) = jm_tu M := rfl
theorem jm_sp_use (M : jm_T) (x : (Nat → Int32)) : jm_sp (jm_use M x) = jm_sp M := rfl
theorem jm_sp_uch (M : jm_T) (x : (Nat → Int32)) : jm_sp (jm_uch M x) = jm_sp M := rfl
theorem jm_sp_uja (M : jm_T) (x : (Nat → Int32)) : jm_sp (jm_uja M x) = jm_sp M := rfl
theorem jm_sp_utk (M : jm_T) (x : (Nat → Int32)) : jm_sp (jm_utk M x) = jm_sp M := rfl
theorem jm_sp_ulj (M : jm_T) (x : (Nat → Int32)) : jm_sp (jm_ulj M x) = jm_sp M := rfl
theorem jm_sp_ulo (M : jm_T) (x : (Nat → Int32)) : jm_sp (jm_ulo M x) = jm_sp M := rfl
theorem jm_sp_utu (M : jm_T) (x : Int32) : jm_sp (jm_utu M x) = jm_sp M := rfl
theorem jm_sp_usp (M : jm_T) (x : Int32) : jm_sp (jm_usp M x) = x := rfl
theorem jm_sp_urv (M : jm_T) (x : Int32) : jm_sp (jm_urv M x) = jm_sp M := rfl
theorem jm_sp_uls (M : jm_T) (x : Int32) : jm_sp (jm_uls M x) = jm_sp M := rfl
theorem jm_sp_ulk (M : jm_T) (x : Int32) : jm_sp (jm_ulk M x) = jm_sp M := rfl
theorem jm_sp_upo (M : jm_T) (x : Int32) : jm_sp (jm_upo M x) = jm_sp M := rfl
theorem jm_sp_uto (M : jm_T) (x : Int32) : jm_sp (jm_uto M x) = jm_sp M := rfl
theorem jm_rv_use (M : jm_T) (x : (Nat → Int32)) : jm_rv (jm_use M x) = jm_rv M := rfl
theorem jm_rv_uch (M : jm_T) (x : (Nat → Int32)) : jm_rv (jm_uch M x) = jm_rv M := rfl
theorem jm_rv_uja (M : jm_T) (x : (Nat → Int32)) : jm_rv (jm_uja M x) = jm_rv M := rfl
theorem jm_rv_utk (M : jm_T) (x : (Nat → Int32)) : jm_rv (jm_utk M x) = jm_rv M := rfl
theorem jm_rv_ulj (M : jm_T) (x : (Nat → Int32)) : jm_rv (jm_ulj M x) = jm_rv M := rfl
theorem jm_rv_ulo (M : jm_T) (x : (Nat → Int32)) : jm_rv (jm_ulo M x) = jm_rv M := rfl
theorem jm_rv_utu (M : jm_T) (x : Int32) : jm_rv (jm_utu M x) = jm_rv M := rfl
theorem jm_rv_usp (M : jm_T) (x : Int32) : jm_rv (jm_usp M x) = jm_rv M := rfl
theorem jm_rv_urv (M : jm_T) (x : Int32) : jm_rv (jm_urv M x) = x := rfl
theorem jm_rv_uls (M : jm_T) (x : Int32) : jm_rv (jm_uls M x) = jm_rv M := rfl
theorem jm_rv_ulk (M : jm_T) (x : Int32) : jm_rv (jm_ulk M x) = jm_rv M := rfl
theorem jm_rv_upo (M : jm_T) (x : Int32) : jm_rv (jm_upo M x) = jm_rv M := rfl
theorem jm_rv_uto (M : jm_T) (x : Int32) : jm_rv (jm_uto M x) = jm_rv M := rfl
theorem jm_ls_use (M : jm_T) (x : (Nat → Int32)) : jm_ls (jm_use M x) = jm_ls M := rfl
theorem jm_ls_uch (M : jm_T) (x : (Nat → Int32)) : jm_ls (jm_uch M x) = jm_ls M := rfl
theorem jm_ls_uja (M : jm_T) (x : (Nat → Int32)) : jm_ls (jm_uja M x) = jm_ls M := rfl
theorem jm_ls_utk (M : jm_T) (x : (Nat → Int32)) : jm_ls (jm_utk M x) = jm_ls M := rfl
theorem jm_ls_ulj (M : jm_T) (x : (Nat → Int32)) : jm_ls (jm_ulj M x) = jm_ls M := rfl
theorem jm_ls_ulo (M : jm_T) (x : (Nat → Int32)) : jm_ls (jm_ulo M x) = jm_ls M := rfl
theorem jm_ls_utu (M : jm_T) (x : Int32) : jm_ls (jm_utu M x) = jm_ls M := rfl
theorem jm_ls_usp (M : jm_T) (x : Int32) : jm_ls (jm_usp M x) = jm_ls M := rfl
theorem jm_ls_urv (M : jm_T) (x : Int32) : jm_ls (jm_urv M x) = jm_ls M := rfl
theorem jm_ls_uls (M : jm_T) (x : Int32) : jm_ls (jm_uls M x) = x := rfl
theorem jm_ls_ulk (M : jm_T) (x : Int32) : jm_ls (jm_ulk M x) = jm_ls M := rfl
theorem jm_ls_upo (M : jm_T) (x : Int32) : jm_ls (jm_upo M x) = jm_ls M := rfl
theorem jm_ls_uto (M : jm_T) (x : Int32) : jm_ls (jm_uto M x) = jm_ls M := rfl
theorem jm_lk_use (M : jm_T) (x : (Nat → Int32)) : jm_lk (jm_use M x) = jm_lk M := rfl
theorem jm_lk_uch (M : jm_T) (x : (Nat → Int32)) : jm_lk (jm_uch M x) = jm_lk M := rfl
theorem jm_lk_uja (M : jm_T) (x : (Nat → Int32)) : jm_lk (jm_uja M x) = jm_lk M := rfl
theorem jm_lk_utk (M : jm_T) (x : (Nat → Int32)) : jm_lk (jm_utk M x) = jm_lk M := rfl
theorem jm_lk_ulj (M : jm_T) (x : (Nat → Int32)) : jm_lk (jm_ulj M x) = jm_lk M := rfl
theorem jm_lk_ulo (M : jm_T) (x : (Nat → Int32)) : jm_lk (jm_ulo M x) = jm_lk M := rfl
theorem jm_lk_utu (M : jm_T) (x : Int32) : jm_lk (jm_utu M x) = jm_lk M := rfl
theorem jm_lk_usp (M : jm_T) (x : Int32) : jm_lk (jm_usp M x) = jm_lk M := rfl
theorem jm_lk_urv (M : jm_T) (x : Int32) : jm_lk (jm_urv M x) = jm_lk M := rfl
theorem jm_lk_uls (M : jm_T) (x : Int32) : jm_lk (jm_uls M x) = jm_lk M := rfl
theorem jm_lk_ulk (M : jm_T) (x : Int32) : jm_lk (jm_ulk M x) = x := rfl
theorem jm_lk_upo (M : jm_T) (x : Int32) : jm_lk (jm_upo M x) = jm_lk M := rfl
theorem jm_lk_uto (M : jm_T) (x : Int32) : jm_lk (jm_uto M x) = jm_lk M := rfl
theorem jm_po_use (M : jm_T) (x : (Nat → Int32)) : jm_po (jm_use M x) = jm_po M := rfl
theorem jm_po_uch (M : jm_T) (x : (Nat → Int32)) : jm_po (jm_uch M x) = jm_po M := rfl
theorem jm_po_uja (M : jm_T) (x : (Nat → Int32)) : jm_po (jm_uja M x) = jm_po M := rfl
theorem jm_po_utk (M : jm_T) (x : (Nat → Int32)) : jm_po (jm_utk M x) = jm_po M := rfl
theorem jm_po_ulj (M : jm_T) (x : (Nat → Int32)) : jm_po (jm_ulj M x) = jm_po M := rfl
theorem jm_po_ulo (M : jm_T) (x : (Nat → Int32)) : jm_po (jm_ulo M x) = jm_po M := rfl
theorem jm_po_utu (M : jm_T) (x : Int32) : jm_po (jm_utu M x) = jm_po M := rfl
theorem jm_po_usp (M : jm_T) (x : Int32) : jm_po (jm_usp M x) = jm_po M := rfl
theorem jm_po_urv (M : jm_T) (x : Int32) : jm_po (jm_urv M x) = jm_po M := rfl
theorem jm_po_uls (M : jm_T) (x : Int32) : jm_po (jm_uls M x) = jm_po M := rfl
theorem jm_po_ulk (M : jm_T) (x : Int32) : jm_po (jm_ulk M x) = jm_po M := rfl
theorem jm_po_upo (M : jm_T) (x : Int32) : jm_po (jm_upo M x) = x := rfl
theorem jm_po_uto (M : jm_T) (x : Int32) : jm_po (jm_uto M x) = jm_po M := rfl
theorem jm_to_use (M : jm_T) (x : (Nat → Int32)) : jm_to (jm_use M x) = jm_to M := rfl
theorem jm_to_uch (M : jm_T) (x : (Nat → Int32)) : jm_to (jm_uch M x) = jm_to M := rfl
theorem jm_to_uja (M : jm_T) (x : (Nat → Int32)) : jm_to (jm_uja M x) = jm_to M := rfl
theorem jm_to_utk (M : jm_T) (x : (Nat → Int32)) : jm_to (jm_utk M x) = jm_to M := rfl
theorem jm_to_ulj (M : jm_T) (x : (Nat → Int32)) : jm_to (jm_ulj M x) = jm_to M := rfl
theorem jm_to_ulo (M : jm_T) (x : (Nat → Int32)) : jm_to (jm_ulo M x) = jm_to M := rfl
theorem jm_to_utu (M : jm_T) (x : Int32) : jm_to (jm_utu M x) = jm_to M := rfl
theorem jm_to_usp (M : jm_T) (x : Int32) : jm_to (jm_usp M x) = jm_to M := rfl
theorem jm_to_urv (M : jm_T) (x : Int32) : jm_to (jm_urv M x) = jm_to M := rfl
theorem jm_to_uls (M : jm_T) (x : Int32) : jm_to (jm_uls M x) = jm_to M := rfl
theorem jm_to_ulk (M : jm_T) (x : Int32) : jm_to (jm_ulk M x) = jm_to M := rfl
theorem jm_to_upo (M : jm_T) (x : Int32) : jm_to (jm_upo M x) = jm_to M := rfl
theorem jm_to_uto (M : jm_T) (x : Int32) : jm_to (jm_uto M x) = x := rfl
theorem jx_al_ual (M : jx_T) (x : (Nat → Int32)) : jx_al (jx_ual M x) = x := rfl
theorem jx_al_ukp (M : jx_T) (x : (Nat → Int32)) : jx_al (jx_ukp M x) = jx_al M := rfl
theorem jx_al_uhi (M : jx_T) (x : (Nat → Int32)) : jx_al (jx_uhi M x) = jx_al M := rfl
theorem jx_al_usl (M : jx_T) (x : (Nat → Int32)) : jx_al (jx_usl M x) = jx_al M := rfl
theorem jx_al_usv (M : jx_T) (x : (Nat → Int32)) : jx_al (jx_usv M x) = jx_al M := rfl
theorem jx_al_utx (M : jx_T) (x : (Nat → Int32)) : jx_al (jx_utx M x) = jx_al M := rfl
theorem jx_al_uhl (M : jx_T) (x : Int32) : jx_al (jx_uhl M x) = jx_al M := rfl
theorem jx_al_utl (M : jx_T) (x : Int32) : jx_al (jx_utl M x) = jx_al M := rfl
theorem jx_al_usp (M : jx_T) (x : Int32) : jx_al (jx_usp M x) = jx_al M := rfl
theorem jx_al_unu (M : jx_T) (x : Int32) : jx_al (jx_unu M x) = jx_al M := rfl
theorem jx_al_ule (M : jx_T) (x : Int32) : jx_al (jx_ule M x) = jx_al M := rfl
theorem jx_al_upl (M : jx_T) (x : Int32) : jx_al (jx_upl M x) = jx_al M := rfl
theorem jx_al_ucg (M : jx_T) (x : Int32) : jx_al (jx_ucg M x) = jx_al M := rfl
theorem jx_kp_ukp (M : jx_T) (x : (Nat → Int32)) : jx_kp (jx_ukp M x) = x := rfl
theorem jx_kp_uhi (M : jx_T) (x : (Nat → Int32)) : jx_kp (jx_uhi M x) = jx_kp M := rfl
theorem jx_kp_usl (M : jx_T) (x : (Nat → Int32)) : jx_kp (jx_usl M x) = jx_kp M := rfl
theorem jx_kp_usv (M : jx_T) (x : (Nat → Int32)) : jx_kp (jx_usv M x) = jx_kp M := rfl
theorem jx_kp_utx (M : jx_T) (x : (Nat → Int32)) : jx_kp (jx_utx M x) = jx_kp M := rfl
theorem jx_kp_uhl (M : jx_T) (x : Int32) : jx_kp (jx_uhl M x) = jx_kp M := rfl
theorem jx_kp_utl (M : jx_T) (x : Int32) : jx_kp (jx_utl M x) = jx_kp M := rfl
theorem jx_kp_usp (M : jx_T) (x : Int32) : jx_kp (jx_usp M x) = jx_kp M := rfl
theorem jx_kp_unu (M : jx_T) (x : Int32) : jx_kp (jx_unu M x) = jx_kp M := rfl
theorem jx_kp_ule (M : jx_T) (x : Int32) : jx_kp (jx_ule M x) = jx_kp M := rfl
theorem jx_kp_upl (M : jx_T) (x : Int32) : jx_kp (jx_upl M x) = jx_kp M := rfl
theorem jx_kp_ucg (M : jx_T) (x : Int32) : jx_kp (jx_ucg M x) = jx_kp M := rfl
theorem jx_hi_ual (M : jx_T) (x : (Nat → Int32)) : jx_hi (jx_ual M x) = jx_hi M := rfl
theorem jx_hi_ukp (M : jx_T) (x : (Nat → Int32)) : jx_hi (jx_ukp M x) = jx_hi M := rfl
theorem jx_hi_uhi (M : jx_T) (x : (Nat → Int32)) : jx_hi (jx_uhi M x) = x := rfl
theorem jx_hi_usl (M : jx_T) (x : (Nat → Int32)) : jx_hi (jx_usl M x) = jx_hi M := rfl
theorem jx_hi_usv (M : jx_T) (x : (Nat → Int32)) : jx_hi (jx_usv M x) = jx_hi M := rfl
theorem jx_hi_utx (M : jx_T) (x : (Nat → Int32)) : jx_hi (jx_utx M x) = jx_hi M := rfl
theorem jx_hi_uhl (M : jx_T) (x : Int32) : jx_hi (jx_uhl M x) = jx_hi M := rfl
theorem jx_hi_utl (M : jx_T) (x : Int32) : jx_hi (jx_utl M x) = jx_hi M := rfl
theorem jx_hi_usp (M : jx_T) (x : Int32) : jx_hi (jx_usp M x) = jx_hi M := rfl
theorem jx_hi_unu (M : jx_T) (x : Int32) : jx_hi (jx_unu M x) = jx_hi M := rfl
theorem jx_hi_ule (M : jx_T) (x : Int32) : jx_hi (jx_ule M x) = jx_hi M := rfl
theorem jx_hi_upl (M : jx_T) (x : Int32) : jx_hi (jx_upl M x) = jx_hi M := rfl
theorem jx_hi_ucg (M : jx_T) (x : Int32) : jx_hi (jx_ucg M x) = jx_hi M := rfl
theorem jx_sl_ual (M : jx_T) (x : (Nat → Int32)) : jx_sl (jx_ual M x) = jx_sl M := rfl
theorem jx_sl_ukp (M : jx_T) (x : (Nat → Int32)) : jx_sl (jx_ukp M x) = jx_sl M := rfl
theorem jx_sl_uhi (M : jx_T) (x : (Nat → Int32)) : jx_sl (jx_uhi M x) = jx_sl M := rfl
theorem jx_sl_usl (M : jx_T) (x : (Nat → Int32)) : jx_sl (jx_usl M x) = x := rfl
theorem jx_sl_usv (M : jx_T) (x : (Nat → Int32)) : jx_sl (jx_usv M x) = jx_sl M := rfl
theorem jx_sl_utx (M : jx_T) (x : (Nat → Int32)) : jx_sl (jx_utx M x) = jx_sl M := rfl
theorem jx_sl_uhl (M : jx_T) (x : Int32) : jx_sl (jx_uhl M x) = jx_sl M := rfl
theorem jx_sl_utl (M : jx_T) (x : Int32) : jx_sl (jx_utl M x) = jx_sl M := rfl
theorem jx_sl_usp (M : jx_T) (x : Int32) : jx_sl (jx_usp M x) = jx_sl M := rfl
theorem jx_sl_unu (M : jx_T) (x : Int32) : jx_sl (jx_unu M x) = jx_sl M := rfl
theorem jx_sl_ule (M : jx_T) (x : Int32) : jx_sl (jx_ule M x) = jx_sl M := rfl
theorem jx_sl_upl (M : jx_T) (x : Int32) : jx_sl (jx_upl M x) = jx_sl M := rfl
theorem jx_sl_ucg (M : jx_T) (x : Int32) : jx_sl (jx_ucg M x) = jx_sl M := rfl
theorem jx_sv_ual (M : jx_T) (x : (Nat → Int32)) : jx_sv (jx_ual M x) = jx_sv M := rfl
theorem jx_sv_ukp (M : jx_T) (x : (Nat → Int32)) : jx_sv (jx_ukp M x) = jx_sv M := rfl
theorem jx_sv_uhi (M : jx_T) (x : (Nat → Int32)) : jx_sv (jx_uhi M x) = jx_sv M := rfl
theorem jx_sv_usl (M : jx_T) (x : (Nat → Int32)) : jx_sv (jx_usl M x) = jx_sv M := rfl
theorem jx_sv_usv (M : jx_T) (x : (Nat → Int32)) : jx_sv (jx_usv M x) = x := rfl
theorem jx_sv_utx (M : jx_T) (x : (Nat → Int32)) : jx_sv (jx_utx M x) = jx_sv M := rfl
theorem jx_sv_uhl (M : jx_T) (x : Int32) : jx_sv (jx_uhl M x) = jx_sv M := rfl
theorem jx_sv_utl (M : jx_T) (x : Int32) : jx_sv (jx_utl M x) = jx_sv M := rfl
theorem jx_sv_usp (M : jx_T) (x : Int32) : jx_sv (jx_usp M x) = jx_sv M := rfl
theorem jx_sv_unu (M : jx_T) (x : Int32) : jx_sv (jx_unu M x) = jx_sv M := rfl
theorem jx_sv_ule (M : jx_T) (x : Int32) : jx_sv (jx_ule M x) = jx_sv M := rfl
theorem jx_sv_upl (M : jx_T) (x : Int32) : jx_sv (jx_upl M x) = jx_sv M := rfl
theorem jx_sv_ucg (M : jx_T) (x : Int32) : jx_sv (jx_ucg M x) = jx_sv M := rfl
theorem jx_tx_ual (M : jx_T) (x : (Nat → Int32)) : jx_tx (jx_ual M x) = jx_tx M := rfl
theorem jx_tx_ukp (M : jx_T) (x : (Nat → Int32)) : jx_tx (jx_ukp M x) = jx_tx M := rfl
theorem jx_tx_uhi (M : jx_T) (x : (Nat → Int32)) : jx_tx (jx_uhi M x) = jx_tx M := rfl
theorem jx_tx_usl (M : jx_T) (x : (Nat → Int32)) : jx_tx (jx_usl M x) = jx_tx M := rfl
theorem jx_tx_usv (M : jx_T) (x : (Nat → Int32)) : jx_tx (jx_usv M x) = jx_tx M := rfl
theorem jx_tx_utx (M : jx_T) (x : (Nat → Int32)) : jx_tx (jx_utx M x) = x := rfl
theorem jx_tx_uhl (M : jx_T) (x : Int32) : jx_tx (jx_uhl M x) = jx_tx M := rfl
theorem jx_tx_utl (M : jx_T) (x : Int32) : jx_tx (jx_utl M x) = jx_tx M := rfl
theorem jx_tx_usp (M : jx_T) (x : Int32) : jx_tx (jx_usp M x) = jx_tx M := rfl
theorem jx_tx_unu (M : jx_T) (x : Int32) : jx_tx (jx_unu M x) = jx_tx M := rfl
theorem jx_tx_ule (M : jx_T) (x : Int32) : jx_tx (jx_ule M x) = jx_tx M := rfl
theorem jx_tx_upl (M : jx_T) (x : Int32) : jx_tx (jx_upl M x) = jx_tx M := rfl
theorem jx_tx_ucg (M : jx_T) (x : Int32) : jx_tx (jx_ucg M x) = jx_tx M := rfl
theorem jx_hl_ual (M : jx_T) (x : (Nat → Int32)) : jx_hl (jx_ual M x) = jx_hl M := rfl
theorem jx_hl_ukp (M : jx_T) (x : (Nat → Int32)) : jx_hl (jx_ukp M x) = jx_hl M := rfl
theorem jx_hl_uhi (M : jx_T) (x : (Nat → Int32)) : jx_hl (jx_uhi M x) = jx_hl M := rfl
theorem jx_hl_usl (M : jx_T) (x : (Nat → Int32)) : jx_hl (jx_usl M x) = jx_hl M := rfl
theorem jx_hl_usv (M : jx_T) (x : (Nat → Int32)) : jx_hl (jx_usv M x) = jx_hl M := rfl
theorem jx_hl_utx (M : jx_T) (x : (Nat → Int32)) : jx_hl (jx_utx M x) = jx_hl M := rfl
theorem jx_hl_uhl (M : jx_T) (x : Int32) : jx_hl (jx_uhl M x) = x := rfl
theorem jx_hl_utl (M : jx_T) (x : Int32) : jx_hl (jx_utl M x) = jx_hl M := rfl
theorem jx_hl_usp (M : jx_T) (x : Int32) : jx_hl (jx_usp M x) = jx_hl M := rfl
theorem jx_hl_unu (M : jx_T) (x : Int32) : jx_hl (jx_unu M x) = jx_hl M := rfl
theorem jx_hl_ule (M : jx_T) (x : Int32) : jx_hl (jx_ule M x) = jx_hl M := rfl
theorem jx_hl_upl (M : jx_T) (x : Int32) : jx_hl (jx_upl M x) = jx_hl M := rfl
theorem jx_hl_ucg (M : jx_T) (x : Int32) : jx_hl (jx_ucg M x) = jx_hl M := rfl
theorem jx_tl_ual (M : jx_T) (x : (Nat → Int32)) : jx_tl (jx_ual M x) = jx_tl M := rfl
theorem jx_tl_ukp (M : jx_T) (x : (Nat → Int32)) : jx_tl (jx_ukp M x) = jx_tl M := rfl
theorem jx_tl_uhi (M : jx_T) (x : (Nat → Int32)) : jx_tl (jx_uhi M x) = jx_tl M := rfl
theorem jx_tl_usl (M : jx_T) (x : (Nat → Int32)) : jx_tl (jx_usl M x) = jx_tl M := rfl
theorem jx_tl_usv (M : jx_T) (x : (Nat → Int32)) : jx_tl (jx_usv M x) = jx_tl M := rfl
theorem jx_tl_utx (M : jx_T) (x : (Nat → Int32)) : jx_tl (jx_utx M x) = jx_tl M := rfl
theorem jx_tl_uhl (M : jx_T) (x : Int32) : jx_tl (jx_uhl M x) = jx_tl M := rfl
theorem jx_tl_utl (M : jx_T) (x : Int32) : jx_tl (jx_utl M x) = x := rfl
theorem jx_tl_usp (M : jx_T) (x : Int32) : jx_tl (jx_usp M x) = jx_tl M := rfl
theorem jx_tl_unu (M : jx_T) (x : Int32) : jx_tl (jx_unu M x) = jx_tl M := rfl
theorem jx_tl_ule (M : jx_T) (x : Int32) : jx_tl (jx_ule M x) = jx_tl M := rfl
theorem jx_tl_upl (M : jx_T) (x : Int32) : jx_tl (jx_upl M x) = jx_tl M := rfl
theorem jx_tl_ucg (M : jx_T) (x : Int32) : jx_tl (jx_ucg M x) = jx_tl M := rfl
theorem jx_sp_ual (M : jx_T) (x : (Nat → Int32)) : jx_sp (jx_ual M x) = jx_sp M := rfl
theorem jx_sp_ukp (M : jx_T) (x : (Nat → Int32)) : jx_sp (jx_ukp M x) = jx_sp M := rfl
theorem jx_sp_uhi (M : jx_T) (x : (Nat → Int32)) : jx_sp (jx_uhi M x) = jx_sp M := rfl
theorem jx_sp_usl (M : jx_T) (x : (Nat → Int32)) : jx_sp (jx_usl M x) = jx_sp M := rfl
theorem jx_sp_usv (M : jx_T) (x : (Nat → Int32)) : jx_sp (jx_usv M x) = jx_sp M := rfl
theorem jx_sp_utx (M : jx_T) (x : (Nat → Int32)) : jx_sp (jx_utx M x) = jx_sp M := rfl
theorem jx_sp_uhl (M : jx_T) (x : Int32) : jx_sp (jx_uhl M x) = jx_sp M := rfl
theorem jx_sp_utl (M : jx_T) (x : Int32) : jx_sp (jx_utl M x) = jx_sp M := rfl
theorem jx_sp_usp (M : jx_T) (x : Int32) : jx_sp (jx_usp M x) = x := rfl
theorem jx_sp_unu (M : jx_T) (x : Int32) : jx_sp (jx_unu M x) = jx_sp M := rfl
theorem jx_sp_ule (M : jx_T) (x : Int32) : jx_sp (jx_ule M x) = jx_sp M := rfl
theorem jx_sp_upl (M : jx_T) (x : Int32) : jx_sp (jx_upl M x) = jx_sp M := rfl
theorem jx_sp_ucg (M : jx_T) (x : Int32) : jx_sp (jx_ucg M x) = jx_sp M := rfl
theorem jx_nu_ual (M : jx_T) (x : (Nat → Int32)) : jx_nu (jx_ual M x) = jx_nu M := rfl
theorem jx_nu_ukp (M : jx_T) (x : (Nat → Int32)) : jx_nu (jx_ukp M x) = jx_nu M := rfl
theorem jx_nu_uhi (M : jx_T) (x : (Nat → Int32)) : jx_nu (jx_uhi M x) = jx_nu M := rfl
theorem jx_nu_usl (M : jx_T) (x : (Nat → Int32)) : jx_nu (jx_usl M x) = jx_nu M := rfl
theorem jx_nu_usv (M : jx_T) (x : (Nat → Int32)) : jx_nu (jx_usv M x) = jx_nu M := rfl
theorem jx_nu_utx (M : jx_T) (x : (Nat → Int32)) : jx_nu (jx_utx M x) = jx_nu M := rfl
theorem jx_nu_uhl (M : jx_T) (x : Int32) : jx_nu (jx_uhl M x) = jx_nu M := rfl
theorem jx_nu_utl (M : jx_T) (x : Int32) : jx_nu (jx_utl M x) = jx_nu M := rfl
theorem jx_nu_usp (M : jx_T) (x : Int32) : jx_nu (jx_usp M x) = jx_nu M := rfl
theorem jx_nu_unu (M : jx_T) (x : Int32) : jx_nu (jx_unu M x) = x := rfl
theorem jx_nu_ule (M : jx_T) (x : Int32) : jx_nu (jx_ule M x) = jx_nu M := rfl
theorem jx_nu_upl (M : jx_T) (x : Int32) : jx_nu (jx_upl M x) = jx_nu M := rfl
theorem jx_nu_ucg (M : jx_T) (x : Int32) : jx_nu (jx_ucg M x) = jx_nu M := rfl
theorem jx_le_ual (M : jx_T) (x : (Nat → Int32)) : jx_le (jx_ual M x) = jx_le M := rfl
theorem jx_le_ukp (M : jx_T) (x : (Nat → Int32)) : jx_le (jx_ukp M x) = jx_le M := rfl
theorem jx_le_uhi (M : jx_T) (x : (Nat → Int32)) : jx_le (jx_uhi M x) = jx_le M := rfl
theorem jx_le_usl (M : jx_T) (x : (Nat → Int32)) : jx_le (jx_usl M x) = jx_le M := rfl
theorem jx_le_usv (M : jx_T) (x : (Nat → Int32)) : jx_le (jx_usv M x) = jx_le M := rfl
theorem jx_le_utx (M : jx_T) (x : (Nat → Int32)) : jx_le (jx_utx M x) = jx_le M := rfl
theorem jx_le_uhl (M : jx_T) (x : Int32) : jx_le (jx_uhl M x) = jx_le M := rfl
theorem jx_le_utl (M : jx_T) (x : Int32) : jx_le (jx_utl M x) = jx_le M := rfl
theorem jx_le_usp (M : jx_T) (x : Int32) : jx_le (jx_usp M x) = jx_le M := rfl
theorem jx_le_unu (M : jx_T) (x : Int32) : jx_le (jx_unu M x) = jx_le M := rfl
theorem jx_le_ule (M : jx_T) (x : Int32) : jx_le (jx_ule M x) = x := rfl
theorem jx_le_upl (M : jx_T) (x : Int32) : jx_le (jx_upl M x) = jx_le M := rfl
theorem jx_le_ucg (M : jx_T) (x : Int32) : jx_le (jx_ucg M x) = jx_le M := rfl
theorem jx_pl_ual (M : jx_T) (x : (Nat → Int32)) : jx_pl (jx_ual M x) = jx_pl M := rfl
theorem jx_pl_ukp (M : jx_T) (x : (Nat → Int32)) : jx_pl (jx_ukp M x) = jx_pl M := rfl
theorem jx_pl_uhi (M : jx_T) (x : (Nat → Int32)) : jx_pl (jx_uhi M x) = jx_pl M := rfl
theorem jx_pl_usl (M : jx_T) (x : (Nat → Int32)) : jx_pl (jx_usl M x) = jx_pl M := rfl
theorem jx_pl_usv (M : jx_T) (x : (Nat → Int32)) : jx_pl (jx_usv M x) = jx_pl M := rfl
theorem jx_pl_utx (M : jx_T) (x : (Nat → Int32)) : jx_pl (jx_utx M x) = jx_pl M := rfl
theorem jx_pl_uhl (M : jx_T) (x : Int32) : jx_pl (jx_uhl M x) = jx_pl M := rfl
theorem jx_pl_utl (M : jx_T) (x : Int32) : jx_pl (jx_utl M x) = jx_pl M := rfl
theorem jx_pl_usp (M : jx_T) (x : Int32) : jx_pl (jx_usp M x) = jx_pl M := rfl
theorem jx_pl_unu (M : jx_T) (x : Int32) : jx_pl (jx_unu M x) = jx_pl M := rfl
theorem jx_pl_ule (M : jx_T) (x : Int32) : jx_pl (jx_ule M x) = jx_pl M := rfl
theorem jx_pl_upl (M : jx_T) (x : Int32) : jx_pl (jx_upl M x) = x := rfl
theorem jx_pl_ucg (M : jx_T) (x : Int32) : jx_pl (jx_ucg M x) = jx_pl M := rfl
theorem jx_cg_ual (M : jx_T) (x : (Nat → Int32)) : jx_cg (jx_ual M x) = jx_cg M := rfl
theorem jx_cg_ukp (M : jx_T) (x : (Nat → Int32)) : jx_cg (jx_ukp M x) = jx_cg M := rfl
theorem jx_cg_uhi (M : jx_T) (x : (Nat → Int32)) : jx_cg (jx_uhi M x) = jx_cg M := rfl
theorem jx_cg_usl (M : jx_T) (x : (Nat → Int32)) : jx_cg (jx_usl M x) = jx_cg M := rfl
theorem jx_cg_usv (M : jx_T) (x : (Nat → Int32)) : jx_cg (jx_usv M x) = jx_cg M := rfl
theorem jx_cg_utx (M : jx_T) (x : (Nat → Int32)) : jx_cg (jx_utx M x) = jx_cg M := rfl
theorem jx_cg_uhl (M : jx_T) (x : Int32) : jx_cg (jx_uhl M x) = jx_cg M := rfl
theorem jx_cg_utl (M : jx_T) (x : Int32) : jx_cg (jx_utl M x) = jx_cg M := rfl
theorem jx_cg_usp (M : jx_T) (x : Int32) : jx_cg (jx_usp M x) = jx_cg M := rfl
theorem jx_cg_unu (M : jx_T) (x : Int32) : jx_cg (jx_unu M x) = jx_cg M := rfl
theorem jx_cg_ule (M : jx_T) (x : Int32) : jx_cg (jx_ule M x) = jx_cg M := rfl
theorem jx_cg_upl (M : jx_T) (x : Int32) : jx_cg (jx_upl M x) = jx_cg M := rfl
theorem jx_cg_ucg (M : jx_T) (x : Int32) : jx_cg (jx_ucg M x) = x := rfl
theorem jp_sg_usg (M : jp_T) (x : (Nat → Int32)) : jp_sg (jp_usg M x) = x := rfl
theorem jp_sg_uln (M : jp_T) (x : Int32) : jp_sg (jp_uln M x) = jp_sg M := rfl
theorem jp_ln_usg (M : jp_T) (x : (Nat → Int32)) : jp_ln (jp_usg M x) = jp_ln M := rfl
theorem jp_ln_uln (M : jp_T) (x : Int32) : jp_ln (jp_uln M x) = x := rfl
theorem jd_at_uat (M : jd_T) (x : Int32) : jd_at (jd_uat M x) = x := rfl
theorem jd_at_ude (M : jd_T) (x : Int32) : jd_at (jd_ude M x) = jd_at M := rfl
theorem jd_at_udi (M : jd_T) (x : Int32) : jd_at (jd_udi M x) = jd_at M := rfl
theorem jd_at_upl (M : jd_T) (x : Int32) : jd_at (jd_upl M x) = jd_at M := rfl
theorem jd_at_uam (M : jd_T) (x : Int32) : jd_at (jd_uam M x) = jd_at M := rfl
theorem jd_de_uat (M : jd_T) (x : Int32) : jd_de (jd_uat M x) = jd_de M := rfl
theorem jd_de_ude (M : jd_T) (x : Int32) : jd_de (jd_ude M x) = x := rfl
theorem jd_de_udi (M : jd_T) (x : Int32) : jd_de (jd_udi M x) = jd_de M := rfl
theorem jd_de_upl (M : jd_T) (x : Int32) : jd_de (jd_upl M x) = jd_de M := rfl
theorem jd_de_uam (M : jd_T) (x : Int32) : jd_de (jd_uam M x) = jd_de M := rfl
theorem jd_di_uat (M : jd_T) (x : Int32) : jd_di (jd_uat M x) = jd_di M := rfl
theorem jd_di_ude (M : jd_T) (x : Int32) : jd_di (jd_ude M x) = jd_di M := rfl
theorem jd_di_udi (M : jd_T) (x : Int32) : jd_di (jd_udi M x) = x := rfl
theorem jd_di_upl (M : jd_T) (x : Int32) : jd_di (jd_upl M x) = jd_di M := rfl
theorem jd_di_uam (M : jd_T) (x : Int32) : jd_di (jd_uam M x) = jd_di M := rfl
theorem jd_pl_uat (M : jd_T) (x : Int32) : jd_pl (jd_uat M x) = jd_pl M := rfl
theorem jd_pl_ude (M : jd_T) (x : Int32) : jd_pl (jd_ude M x) = jd_pl M := rfl
theorem jd_pl_udi (M : jd_T) (x : Int32) : jd_pl (jd_udi M x) = jd_pl M := rfl
theorem jd_pl_upl (M : jd_T) (x : Int32) : jd_pl (jd_upl M x) = x := rfl
theorem jd_pl_uam (M : jd_T) (x : Int32) : jd_pl (jd_uam M x) = jd_pl M := rfl
theorem jd_am_uat (M : jd_T) (x : Int32) : jd_am (jd_uat M x) = jd_am M := rfl
theorem jd_am_ude (M : jd_T) (x : Int32) : jd_am (jd_ude M x) = jd_am M := rfl
theorem jd_am_udi (M : jd_T) (x : Int32) : jd_am (jd_udi M x) = jd_am M := rfl
theorem jd_am_upl (M : jd_T) (x : Int32) : jd_am (jd_upl M x) = jd_am M := rfl
theorem jd_am_uam (M : jd_T) (x : Int32) : jd_am (jd_uam M x) = x := rfl
