/** Histories of one object that have as many possibilities as are counted, or just one more. */
final class LimitHistories extends Histories {
    private LimitHistories() {
    }

    /**
     * Reads of a register, ten of them lost. Of those that came back each is called when so many
     * are lost; while it is not done, those and no later ones can be: two to the power of that.
     */
    private static LinearHistories reads(int... lostBefore) {
        LinearHistories x = with(REGISTER);
        int losses = 0;
        for (int due : lostBefore) {
            while (losses < due) {
                lost(x, 0, 0, READ, 0, 0);
                losses++;
            }
            sequential(x, 0, 0, READ, 0, 0, 0);
        }
        while (losses < 10) {
            lost(x, 0, 0, READ, 0, 0);
            losses++;
        }
        return x;
    }

    /** 16 + 64 + 128 + 256 + 512 + 1024, by 15 operations. */
    static LinearHistories of2000() {
        return reads(4, 6, 7, 8, 9);
    }

    /** 1 + 16 + 64 + 128 + 256 + 512 + 1024, by 16 operations. */
    static LinearHistories of2001() {
        return reads(0, 4, 6, 7, 8, 9);
    }

    /** Writes that are lost but for two, by 12 operations, so that more can follow. */
    static LinearHistories of2001Short() {
        LinearHistories x = with(REGISTER);
        for (int i = 0; i < 12; i++) {
            int code = i == 5 ? SWAP : i == 10 ? READ : WRITE;
            x.call(0, 0, code, i % 2, 0);
            if (i == 4 || i == 6) {
                x.back(0, 0);
            } else {
                x.lose(0);
            }
        }
        return x;
    }

    /** In its own order 5 * 5 * 5 * 2 * 2 * 2 * 2: each process has done some of its first ones. */
    static LinearHistories own2000() {
        int[] lengths = {4, 4, 4, 1, 1, 1, 1};
        LinearHistories x = with(REGISTER);
        for (int process = 0; process < lengths.length; process++) {
            for (int i = 0; i < lengths[process]; i++) {
                sequential(x, process, 0, READ, 0, 0, 0);
            }
        }
        return x;
    }

    /** In its own order: two takes and nine puts of one number, all lost. */
    static LinearHistories own2001() {
        LinearHistories x = with(QUEUE);
        for (int i = 0; i < 11; i++) {
            lost(x, i % 8, 0, i < 2 ? TAKE : PUT, 0, 0);
        }
        return x;
    }
}
