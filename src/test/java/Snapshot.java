/** What can be asked about a staircase, in few calls: an object is good for no more than 512. */
final class Snapshot {
    private Snapshot() {
    }

    /** All that undo brings back, and that a slot keeps. */
    static String of(KittenStairs x) {
        StringBuilder all = new StringBuilder();
        for (int what = 0; what <= 14; what++) all.append(x.count(what)).append(' ');
        int kittens = x.count(1);
        for (int k = 0; k < kittens; k++) {
            all.append('/');
            for (int what = 0; what <= 9; what++) all.append(x.of(k, what)).append(' ');
        }
        for (int edge = 0; edge < 15; edge++) {
            all.append('/');
            int strands = x.ofEdge(edge, 0);
            for (int rank = 0; rank < strands; rank++) all.append(x.strand(edge, rank)).append(' ');
        }
        int plans = x.count(10);
        for (int rank = 0; rank < plans; rank++) {
            all.append('/');
            for (int what = 0; what <= 2; what++) all.append(x.planned(rank, what)).append(' ');
        }
        return all.toString();
    }

    /** That, and what can be told of the pad and the history. */
    static String whole(KittenStairs x) {
        return of(x) + "/" + x.count(15) + " " + x.fault() + "/" + x.count(16);
    }
}
