/** All sides and ranks that two operators can have, and what the document says of each pair. */
final class Pairs {
    static final int LEFT = 0;
    static final int RIGHT = 1;
    static final int SIDES = 3;
    static final int RANKS = 10;
    /** Of the one that waits, W, as the other comes. */
    static final int CLASHES = 0;
    static final int IS_DONE = 1;
    static final int WAITS_ON = 2;

    interface Check {
        void of(int side, int rank, int otherSide, int otherRank);
    }

    private Pairs() {
    }

    static void each(Check check) {
        for (int side = 0; side < SIDES; side++) {
            for (int rank = 0; rank < RANKS; rank++) {
                for (int otherSide = 0; otherSide < SIDES; otherSide++) {
                    for (int otherRank = 0; otherRank < RANKS; otherRank++) {
                        check.of(side, rank, otherSide, otherRank);
                    }
                }
            }
        }
    }

    static int fate(int side, int rank, int otherSide, int otherRank) {
        if (rank == otherRank && !(side == LEFT && otherSide == LEFT) && !(side == RIGHT && otherSide == RIGHT)) {
            return CLASHES;
        }
        return rank > otherRank || rank == otherRank && side == LEFT ? IS_DONE : WAITS_ON;
    }

    /** Whether a child fits that stands at the left (0) or at the right (1) of its parent. */
    static boolean fits(int hand, int side, int rank, int parentSide, int parentRank) {
        return rank > parentRank || rank == parentRank && side == hand && parentSide == hand;
    }

    /** Operators w and o have these in scope 0. */
    static Run with(int side, int rank, int otherSide, int otherRank) {
        Run x = new Run();
        x.fixity(0, Texts.operator('w'), side, rank);
        x.fixity(0, Texts.operator('o'), otherSide, otherRank);
        return x;
    }

    static String name(int side, int rank) {
        return "LRN".charAt(side) + "" + rank;
    }
}
