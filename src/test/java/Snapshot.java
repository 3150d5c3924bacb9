/** All that can be asked about a staircase, but for the pad and the history. */
final class Snapshot {
    private Snapshot() {
    }

    static String of(KittenStairs x) {
        StringBuilder all = new StringBuilder();
        for (int what = 0; what <= 14; what++) all.append(x.count(what)).append(' ');
        for (int k = 0; k < 6; k++) {
            for (int what = 0; what <= 9; what++) all.append(x.of(k, what)).append(' ');
        }
        for (int edge = 0; edge < 15; edge++) {
            for (int rank = 0; rank < x.ofEdge(edge, 0); rank++) all.append(x.strand(edge, rank)).append(' ');
            all.append('/');
        }
        for (int rank = 0; rank < 16; rank++) {
            for (int what = 0; what <= 2; what++) all.append(x.planned(rank, what)).append(' ');
        }
        return all.toString();
    }
}
