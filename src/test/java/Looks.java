/** All that can be seen of an object, in parts that need some 300 calls at most, so that an object stays within 512. */
final class Looks {
    static final int PARTS = 9;

    private Looks() {
    }

    static String look(QuorumLog x, int part) {
        StringBuilder told = new StringBuilder();
        switch (part) {
            case 0 -> states(x, told);
            case 1 -> messages(x, told, 0);
            case 2 -> reads(x, told);
            case 3 -> comesThen(x, told);
            default -> entries(x, told, part - 4);
        }
        return told.toString();
    }

    private static void states(QuorumLog x, StringBuilder told) {
        for (int server = 0; server < 5; server++) {
            for (int what = 0; what < 9; what++) {
                told.append(x.state(server, what)).append(' ');
            }
            for (int key = 0; key < 4; key++) {
                told.append(x.stored(server, key)).append(' ');
            }
        }
        told.append(x.waiting());
    }

    private static void messages(QuorumLog x, StringBuilder told, int firstWhat) {
        int waiting = x.waiting();
        for (int k = 0; k < waiting; k++) {
            for (int what = firstWhat; what < 7; what++) {
                told.append(x.message(k, what)).append(' ');
            }
        }
    }

    private static void reads(QuorumLog x, StringBuilder told) {
        for (int read = 0; read <= 60; read++) {
            told.append(x.outcome(read)).append(' ').append(x.value(read)).append(' ');
        }
    }

    private static void entries(QuorumLog x, StringBuilder told, int server) {
        int last = x.state(server, 5);
        for (int index = x.state(server, 4); index <= last; index++) {
            for (int what = 0; what < 4; what++) {
                told.append(x.entry(server, index, what)).append(' ');
            }
        }
    }

    /** NEXT, MATCH, ROUND and the yes that a server has are seen only in what it does later. */
    private static void comesThen(QuorumLog x, StringBuilder told) {
        for (int server = 0; server < 5; server++) {
            int one = server;
            told.append(x.beat(server)).append(' ').append(Checks.answer(x, y -> y.read(one, 1))).append(' ');
        }
        messages(x, told, 4);
        for (int i = 0; i < 30; i++) {
            told.append(x.deliver(0)).append(' ');
        }
        for (int server = 0; server < 5; server++) {
            told.append(x.timer(server)).append(' ');
        }
        states(x, told);
    }
}
