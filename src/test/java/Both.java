/** A call by its name, on the class and on the model; true counts 1. */
final class Both {
    private Both() {
    }

    static long graves(NineGraves x, String name, int[] a) {
        switch (name) {
            case "town": return x.town(a[0], a[1]);
            case "bone": return x.bone(a[0], a[1], a[2]);
            case "prove": return x.prove(a[0], a[1]) ? 1 : 0;
            case "feed": return x.feed(a[0], a[1], a[2], a[3], a[4]);
            case "end": return x.end(a[0]);
            case "text": return x.text();
            case "fault": return x.fault(a[0]);
            case "by": return x.by(a[0]) ? 1 : 0;
            case "lend": return x.lend(a[0], a[1], a[2]);
            case "swap": return x.swap(a[0], a[1]) ? 1 : 0;
            case "steal": return x.steal(a[0], a[1]) ? 1 : 0;
            case "burn": return x.burn(a[0]);
            case "pass": return x.pass(a[0]);
            case "played": return x.played(a[0]);
            case "undo": return x.undo();
            case "of": return x.of(a[0], a[1]);
            case "saints": return x.saints(a[0], a[1]);
            case "rules": return x.rules(a[0], a[1]) ? 1 : 0;
            case "seen": return x.seen(a[0], a[1], a[2], a[3]);
            case "forget": return x.forget();
            case "same": return x.same(a[0], a[1]) ? 1 : 0;
            case "best": return x.best(a[0]);
            case "histories": return x.histories();
            case "led": return x.led(a[0]);
            case "chance": return x.chance(a[0], a[1], a[2], a[3]);
            case "round": return x.round(a[0], a[1]);
            case "pilgrims": return x.pilgrims(a[0], a[1], a[2], a[3]);
            case "image": return x.image();
            case "back": return x.back();
            case "about": return x.about(a[0]);
            default: throw new IllegalArgumentException(name);
        }
    }

    static long model(Model m, String name, int[] a) {
        switch (name) {
            case "town": return m.town(a[0], a[1]);
            case "bone": return m.bone(a[0], a[1], a[2]);
            case "prove": return m.prove(a[0], a[1]);
            case "feed": return m.feed(a[0], a[1], a[2], a[3], a[4]);
            case "end": return m.end(a[0]);
            case "text": return m.text();
            case "fault": return m.fault(a[0]);
            case "by": return m.by(a[0]);
            case "lend": return m.lend(a[0], a[1], a[2]);
            case "swap": return m.swap(a[0], a[1]);
            case "steal": return m.steal(a[0], a[1]);
            case "burn": return m.burn(a[0]);
            case "pass": return m.pass(a[0]);
            case "played": return m.played(a[0]);
            case "undo": return m.undo();
            case "of": return m.of(a[0], a[1]);
            case "saints": return m.saints(a[0], a[1]);
            case "rules": return m.rules(a[0], a[1]);
            case "seen": return m.seen(a[0], a[1], a[2], a[3]);
            case "forget": return m.forget();
            case "same": return m.same(a[0], a[1]);
            case "best": return m.best(a[0]);
            case "histories": return m.histories();
            case "led": return m.led(a[0]);
            case "chance": return m.chance(a[0], a[1], a[2], a[3]);
            case "round": return m.round(a[0], a[1]);
            case "pilgrims": return m.pilgrims(a[0], a[1], a[2], a[3]);
            case "image": return m.image();
            case "back": return m.back();
            case "about": return m.about(a[0]);
            default: throw new IllegalArgumentException(name);
        }
    }
}
