/** The document's calls by their names, so that a test can tell which call it made. */
final class Calls {
    private Calls() {
    }

    static int on(CloningMachine x, String name, int... a) {
        switch (name) {
            case "set": return x.set(a[0], a[1]);
            case "renew": return x.renew();
            case "write": return x.write(a[0]);
            case "wipe": return x.wipe();
            case "pack": return x.pack();
            case "unpack": return x.unpack(a[0]);
            case "spoil": return x.spoil(a[0], a[1]);
            case "at": return x.at(a[0], a[1]);
            case "alike": return x.alike();
            case "grew": return x.grew(a[0], a[1]);
            case "bit": return x.bit(a[0]);
            case "take": return x.take(a[0]);
            case "state": return x.state(a[0], a[1]);
            case "live": return x.live(a[0]);
            case "likely": return x.likely(a[0]);
            case "guess": return x.guess();
            case "cost": return x.cost(a[0], a[1]);
            case "cheapest": return x.cheapest(a[0]);
            case "keep": return x.keep();
            case "back": return x.back();
            case "count": return x.count(a[0]);
            default: throw new IllegalArgumentException("no call is named " + name);
        }
    }

    static String shown(String name, int... a) {
        StringBuilder text = new StringBuilder(name).append('(');
        for (int i = 0; i < a.length; i++) {
            text.append(i == 0 ? "" : ", ").append(a[i]);
        }
        return text.append(')').toString();
    }
}
