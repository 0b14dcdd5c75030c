/** Harbours that several tests begin with. */
final class Harbours {
    private Harbours() {
    }

    /** Piece 0 of width 20 from point 0 to 1, and ship 0 of width 8, a plain one: 10 minutes. */
    static ChannelRules one() {
        ChannelRules x = new ChannelRules();
        x.piece(0, 1, 10, 20);
        x.ship(8, 1, 0);
        return x;
    }

    /** Pieces 0 and 1 from point 0 by 1 to 2, 10 minutes each for ship 0, a plain one. */
    static ChannelRules two() {
        ChannelRules x = one();
        x.piece(1, 2, 10, 20);
        return x;
    }

    /** All points in a row, seven pieces of 100 minutes each for ship 0. */
    static ChannelRules row() {
        ChannelRules x = new ChannelRules();
        for (int point = 0; point < 7; point++) {
            x.piece(point, point + 1, 100, 10);
        }
        x.ship(10, 1, 0);
        return x;
    }

    /** A harbour with all thirty slots, the first at 1000 and each 100 behind the one before. */
    static ChannelRules full() {
        ChannelRules x = one();
        for (int slot = 1; slot <= 30; slot++) {
            x.ask(0, 0, 1, 900 + 100 * slot);
        }
        return x;
    }
}
