/** Scenes' texts, with ' for a quote. */
final class Texts {
    static final String TEXTURE = "{'side':1,'wrap':0,'soft':0,'texels':[1,2,3]}";
    static final String MATERIAL = "{'colour':[1,2,3,4],'texture':-1,'both':0}";
    static final String MESH = "{'material':0,'points':[1,2,3],'normals':[4,5,6],'places':[7,8],"
        + "'faces':[0,0,0]}";
    static final String NODE = "{'parent':-1,'mesh':-1,'move':[1,2,3],'turn':[4,5,6],"
        + "'size':[7,8,9]}";
    static final String TRACK = "{'node':0,'what':0,'how':0,'times':[5],'values':[1,2,3]}";
    static final String CAMERA = "{'move':[1,2,3],'turn':[4,5,6],'focus':8}";
    static final String LIGHT = "{'toward':[7,8,9],'ambient':10}";

    private static final String MATERIALS = "{'materials':[" + MATERIAL + "],";
    private static final String NODES = "{'nodes':[" + NODE + "],";

    /** By kind: a thing, and the text of a scene up to and with the [ of the kind's list. */
    static final String[] THINGS = {TEXTURE, MATERIAL, MESH, NODE, TRACK};
    static final String[] OPENED = {"{'textures':[", "{'materials':[", MATERIALS + "'meshes':[",
        "{'nodes':[", NODES + "'tracks':["};
    static final int[] MOST = {8, 16, 16, 48, 32};

    /** Every kind twice or more, no two numbers of a thing alike where they may differ. */
    static final String WHOLE = "{'textures':[{'side':2,'wrap':1,'soft':0,"
        + "'texels':[10,11,12,13,14,15,16,17,18,19,20,21]},"
        + "{'side':1,'wrap':2,'soft':1,'texels':[0,255,7]}],"
        + "'materials':[{'colour':[0,255,3,4],'texture':1,'both':0},"
        + "{'colour':[5,6,7,8],'texture':-1,'both':1}],"
        + "'meshes':[{'material':1,'points':[1,2,3,4,5,6],'normals':[7,8,9,10,11,12],"
        + "'places':[13,14,15,16],'faces':[1,0,0,1,1,0,0,0,1]},"
        + "{'material':0,'points':[-1048576,1048576,0],'normals':[-65536,65536,1],"
        + "'places':[-131072,131072],'faces':[0,0,0]}],"
        + "'nodes':[{'parent':-1,'mesh':1,'move':[-4194304,4194304,30],"
        + "'turn':[-1048576,1048576,31],'size':[32,-1048576,1048576]},"
        + "{'parent':0,'mesh':-1,'move':[33,34,35],'turn':[36,37,38],'size':[39,40,41]},"
        + "{'parent':1,'mesh':0,'move':[42,43,44],'turn':[45,46,47],'size':[48,49,50]}],"
        + "'tracks':[{'node':2,'what':1,'how':2,'times':[0,1000000],"
        + "'values':[51,52,53,54,55,-1048576]},"
        + "{'node':0,'what':0,'how':1,'times':[60],'values':[-4194304,4194304,61]}],"
        + "'camera':{'move':[70,71,72],'turn':[73,74,75],'focus':512},"
        + "'light':{'toward':[76,-65536,65536],'ambient':65536}}";

    /** Each part once, as short as it can be. */
    static final String SHORT = "{'textures':[" + TEXTURE + "],'materials':[" + MATERIAL + "],'meshes':["
        + MESH + "],'nodes':[" + NODE + "],'tracks':[" + TRACK + "],'camera':" + CAMERA + ",'light':"
        + LIGHT + "}";

    private Texts() {
    }

    /** A scene with so many things of one kind, up to and with the last of them. */
    static String full(int kind, int things) {
        return OPENED[kind] + Check.times(things, THINGS[kind]);
    }
}
